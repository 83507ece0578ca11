/-! numbers asked about in both -/
theorem le_32_64 {lo : Nat} (hl : lo < 2 ^ 31) (a : Int32) : lN lo ≤ a.toInt64 ↔ nI lo ≤ a := by
  rw [Int64.le_iff_toInt_le, lN_toInt hl, Int32.toInt_toInt64, Int32.le_iff_toInt_le, nI_toInt hl]
theorem ge_32_64 {hi : Nat} (hl : hi < 2 ^ 31) (a : Int32) : a.toInt64 ≤ lN hi ↔ a ≤ nI hi := by
  rw [Int64.le_iff_toInt_le, lN_toInt hl, Int32.toInt_toInt64, Int32.le_iff_toInt_le, nI_toInt hl]
theorem wi_in (lo hi : Nat) (hh : lo < 2 ^ 31 ∧ hi < 2 ^ 31) (a : Int32) : F_S_isWithin a (nI lo) (nI hi) = F_M_in a.toInt64 (lN lo) (lN hi) := by
  rw [wi_eq, in_eq]
  simp only [le_32_64 hh.1, ge_32_64 hh.2]
theorem isLength_eq (a : Int32) : F_S_isLength a = F_M_isLength a := wi_in 10 400 (by omega) a
theorem isVoltage_eq (a : Int32) : F_S_isVoltage a = F_M_isVoltage a := wi_in 500 1200 (by omega) a
theorem isPath_eq {S : SLS} {M : ARR} {P : Nat} (hS : (S.1 0).1 4 2 = nI P) (hM : M 0 51 = nI P) (h1 : 1 ≤ P) (h8 : P ≤ 8) (a : Int32) : F_S_isPath S a = F_M_isPath M a := by
  unfold F_S_isPath F_M_isPath
  show F_S_isWithin a (nI 0) ((S.1 0).1 4 2 - nI 1) = F_M_in a.toInt64 (lN 0) ((M 0 51).toInt64 - lN 1)
  rw [hS, hM, nI_l (by omega), lN_sub h1, show nI P - nI 1 = nI (P - 1) from pk_sub (a := P) (b := 1) h1]
  exact wi_in 0 (P - 1) (by omega) a
theorem RS.P {B : Nat} {S : SLS} {M : ARR} (h : RS B S M) : ∃ P : Nat, 1 ≤ P ∧ P ≤ 8 ∧ (S.1 0).1 4 2 = nI P ∧ M 0 51 = nI P := by
  obtain ⟨P, p1, p8, hM⟩ := h.I.p
  exact ⟨P, p1, p8, by rw [h.c.1.f 2 51 (by decide)]; exact hM, hM⟩
/-! one number of a row changes -/
def IV (k : Nat) (v : Int32) : Prop := (k = 51 → bn 1 8 v) ∧ (k = 39 → bn 500 1200 v) ∧ (k = 40 → bn 20 120 v) ∧ (k = 41 → bn 0 1 v) ∧ (k = 32 → bn 50 1000 v) ∧ (k = 33 → bn 0 200 v) ∧ (k = 34 → bn 1 20 v) ∧ (k = 35 → bn 10 500 v) ∧ (k = 36 → bn 0 100 v) ∧ (k = 37 → bn 1 50 v) ∧ (k = 38 → bn 1 10 v) ∧ (k < 8 → bn 0 400 v) ∧ (16 ≤ k ∧ k < 32 → bn 0 255 v) ∧ k ≠ 49 ∧ k ≠ 50
theorem sA_if (M : ARR) (k : Nat) (v : Int32) (j : Nat) : sA M 0 k v 0 j = if j = k then v else M 0 j := by simp [sA, upd]
theorem IA_set {M : ARR} (h : IA (M 0)) (k : Nat) (v : Int32) (hv : IV k v) : IA (sA M 0 k v 0) := by
  obtain ⟨v1, v2, v3, v4, v5, v6, v7, v8, v9, v10, v11, v12, v13, v14, v15⟩ := hv
  refine ⟨?_, ?_, ?_, ?_, ?_, ?_, ?_, ?_, ?_, ?_, ?_, ?_, fun q hq => ?_, fun q hq => ?_⟩
  · rw [sA_if]; split
    · exact v1 (by omega)
    · exact h.p
  · rw [sA_ne _ _ _ _ (Ne.symm v15), sA_ne _ _ _ _ (Ne.symm v14)]; exact h.w
  · rw [sA_if]; split
    · exact v2 (by omega)
    · exact h.v
  · rw [sA_if]; split
    · exact v3 (by omega)
    · exact h.h
  · rw [sA_if]; split
    · exact v4 (by omega)
    · exact h.g
  · rw [sA_if]; split
    · exact v5 (by omega)
    · exact h.s0
  · rw [sA_if]; split
    · exact v6 (by omega)
    · exact h.s1
  · rw [sA_if]; split
    · exact v7 (by omega)
    · exact h.s2
  · rw [sA_if]; split
    · exact v8 (by omega)
    · exact h.s3
  · rw [sA_if]; split
    · exact v9 (by omega)
    · exact h.s4
  · rw [sA_if]; split
    · exact v10 (by omega)
    · exact h.s5
  · rw [sA_if]; split
    · exact v11 (by omega)
    · exact h.s6
  · rw [sA_if]; split
    · exact v12 (by omega)
    · exact h.l q hq
  · rw [sA_if]; split
    · exact v13 (by omega)
    · exact h.t q hq
theorem IV_len {k : Nat} {v : Int32} (hk : k < 8) (hv : bn 0 400 v) : IV k v := ⟨fun q => absurd q (by omega), fun q => absurd q (by omega), fun q => absurd q (by omega), fun q => absurd q (by omega), fun q => absurd q (by omega), fun q => absurd q (by omega), fun q => absurd q (by omega), fun q => absurd q (by omega), fun q => absurd q (by omega), fun q => absurd q (by omega), fun q => absurd q (by omega), fun _ => hv, fun q => absurd q (by omega), (by omega), (by omega)⟩
theorem IV_set {k : Nat} {v : Int32} (hk : k < 16) (hv : bn 0 255 v) : IV (16 + k) v := ⟨fun q => absurd q (by omega), fun q => absurd q (by omega), fun q => absurd q (by omega), fun q => absurd q (by omega), fun q => absurd q (by omega), fun q => absurd q (by omega), fun q => absurd q (by omega), fun q => absurd q (by omega), fun q => absurd q (by omega), fun q => absurd q (by omega), fun q => absurd q (by omega), fun q => absurd q (by omega), fun _ => hv, (by omega), (by omega)⟩
theorem IV_51 {v : Int32} (hv : bn 1 8 v) : IV 51 v := ⟨fun _ => hv, fun q => absurd q (by omega), fun q => absurd q (by omega), fun q => absurd q (by omega), fun q => absurd q (by omega), fun q => absurd q (by omega), fun q => absurd q (by omega), fun q => absurd q (by omega), fun q => absurd q (by omega), fun q => absurd q (by omega), fun q => absurd q (by omega), fun q => absurd q (by omega), fun q => absurd q (by omega), (by omega), (by omega)⟩
theorem IV_39 {v : Int32} (hv : bn 500 1200 v) : IV 39 v := ⟨fun q => absurd q (by omega), fun _ => hv, fun q => absurd q (by omega), fun q => absurd q (by omega), fun q => absurd q (by omega), fun q => absurd q (by omega), fun q => absurd q (by omega), fun q => absurd q (by omega), fun q => absurd q (by omega), fun q => absurd q (by omega), fun q => absurd q (by omega), fun q => absurd q (by omega), fun q => absurd q (by omega), (by omega), (by omega)⟩
theorem IV_41 {v : Int32} (hv : bn 0 1 v) : IV 41 v := ⟨fun q => absurd q (by omega), fun q => absurd q (by omega), fun q => absurd q (by omega), fun _ => hv, fun q => absurd q (by omega), fun q => absurd q (by omega), fun q => absurd q (by omega), fun q => absurd q (by omega), fun q => absurd q (by omega), fun q => absurd q (by omega), fun q => absurd q (by omega), fun q => absurd q (by omega), fun q => absurd q (by omega), (by omega), (by omega)⟩
theorem IV_32 {v : Int32} (hv : bn 50 1000 v) : IV 32 v := ⟨fun q => absurd q (by omega), fun q => absurd q (by omega), fun q => absurd q (by omega), fun q => absurd q (by omega), fun _ => hv, fun q => absurd q (by omega), fun q => absurd q (by omega), fun q => absurd q (by omega), fun q => absurd q (by omega), fun q => absurd q (by omega), fun q => absurd q (by omega), fun q => absurd q (by omega), fun q => absurd q (by omega), (by omega), (by omega)⟩
theorem IV_33 {v : Int32} (hv : bn 0 200 v) : IV 33 v := ⟨fun q => absurd q (by omega), fun q => absurd q (by omega), fun q => absurd q (by omega), fun q => absurd q (by omega), fun q => absurd q (by omega), fun _ => hv, fun q => absurd q (by omega), fun q => absurd q (by omega), fun q => absurd q (by omega), fun q => absurd q (by omega), fun q => absurd q (by omega), fun q => absurd q (by omega), fun q => absurd q (by omega), (by omega), (by omega)⟩
theorem IV_34 {v : Int32} (hv : bn 1 20 v) : IV 34 v := ⟨fun q => absurd q (by omega), fun q => absurd q (by omega), fun q => absurd q (by omega), fun q => absurd q (by omega), fun q => absurd q (by omega), fun q => absurd q (by omega), fun _ => hv, fun q => absurd q (by omega), fun q => absurd q (by omega), fun q => absurd q (by omega), fun q => absurd q (by omega), fun q => absurd q (by omega), fun q => absurd q (by omega), (by omega), (by omega)⟩
theorem IV_35 {v : Int32} (hv : bn 10 500 v) : IV 35 v := ⟨fun q => absurd q (by omega), fun q => absurd q (by omega), fun q => absurd q (by omega), fun q => absurd q (by omega), fun q => absurd q (by omega), fun q => absurd q (by omega), fun q => absurd q (by omega), fun _ => hv, fun q => absurd q (by omega), fun q => absurd q (by omega), fun q => absurd q (by omega), fun q => absurd q (by omega), fun q => absurd q (by omega), (by omega), (by omega)⟩
theorem IV_36 {v : Int32} (hv : bn 0 100 v) : IV 36 v := ⟨fun q => absurd q (by omega), fun q => absurd q (by omega), fun q => absurd q (by omega), fun q => absurd q (by omega), fun q => absurd q (by omega), fun q => absurd q (by omega), fun q => absurd q (by omega), fun q => absurd q (by omega), fun _ => hv, fun q => absurd q (by omega), fun q => absurd q (by omega), fun q => absurd q (by omega), fun q => absurd q (by omega), (by omega), (by omega)⟩
theorem IV_37 {v : Int32} (hv : bn 1 50 v) : IV 37 v := ⟨fun q => absurd q (by omega), fun q => absurd q (by omega), fun q => absurd q (by omega), fun q => absurd q (by omega), fun q => absurd q (by omega), fun q => absurd q (by omega), fun q => absurd q (by omega), fun q => absurd q (by omega), fun q => absurd q (by omega), fun _ => hv, fun q => absurd q (by omega), fun q => absurd q (by omega), fun q => absurd q (by omega), (by omega), (by omega)⟩
theorem IV_38 {v : Int32} (hv : bn 1 10 v) : IV 38 v := ⟨fun q => absurd q (by omega), fun q => absurd q (by omega), fun q => absurd q (by omega), fun q => absurd q (by omega), fun q => absurd q (by omega), fun q => absurd q (by omega), fun q => absurd q (by omega), fun q => absurd q (by omega), fun q => absurd q (by omega), fun q => absurd q (by omega), fun _ => hv, fun q => absurd q (by omega), fun q => absurd q (by omega), (by omega), (by omega)⟩
theorem rel_len {d : Int32} {C : CS} {M : ARR} (k : Nat) (hk : k < 8) {v : Int32} (h : RelD d C (M 0)) : RelD d (sC C 0 k v) (sA M 0 k v 0) := by
  refine ⟨fun q hq => ?_, fun q hq => ?_, fun q N hN h16 hq => ?_, fun q hq => ?_, fun q hq => ?_, ?_, fun i' j' z => ?_⟩
  · by_cases e : q = k
    · subst e; rw [sC_e, sA_e]
    · rw [sC_ne _ _ _ _ e, sA_ne _ _ _ _ (by omega)]; exact h.l q hq
  · rw [sC_o _ _ _ _ (by decide), sA_ne _ _ _ _ (by omega)]; exact h.u q hq
  · rw [sC_o _ _ _ _ (by decide), sA_ne _ _ _ _ (by omega)]
    rw [sA_ne _ _ _ _ (by omega)] at hN
    exact h.s q N hN h16 hq
  · rw [sC_o _ _ _ _ (by decide)]; exact h.t q hq
  · rw [sC_o _ _ _ _ (by decide), sA_ne _ _ _ _ (by omega)]; exact h.e q hq
  · rw [sC_o _ _ _ _ (by decide), sA_ne _ _ _ _ (by omega)]; exact h.w
  · obtain ⟨r1, r2, r3, r4, r5⟩ := SF_r _ z
    rw [sC_o _ _ _ _ (by decide), sA_ne _ _ _ _ (by dsimp only at *; omega)]
    exact h.f i' j' z
theorem rel_sett {d : Int32} {C : CS} {M : ARR} (k : Nat) (hk : k < 7) {v : Int32} (h : RelD d C (M 0)) : RelD d (sC C 3 k v) (sA M 0 (32 + k) v 0) := by
  refine ⟨fun q hq => ?_, fun q hq => ?_, fun q N hN h16 hq => ?_, fun q hq => ?_, fun q hq => ?_, ?_, fun i' j' z => ?_⟩
  · rw [sC_o _ _ _ _ (by decide), sA_ne _ _ _ _ (by omega)]; exact h.l q hq
  · rw [sC_o _ _ _ _ (by decide), sA_ne _ _ _ _ (by omega)]; exact h.u q hq
  · rw [sC_o _ _ _ _ (by decide), sA_ne _ _ _ _ (by omega)]
    rw [sA_ne _ _ _ _ (by omega)] at hN
    exact h.s q N hN h16 hq
  · rw [sC_o _ _ _ _ (by decide)]; exact h.t q hq
  · by_cases e : q = k
    · subst e; rw [sC_e, sA_e]
    · rw [sC_ne _ _ _ _ e, sA_ne _ _ _ _ (by omega)]; exact h.e q hq
  · rw [sC_o _ _ _ _ (by decide), sA_ne _ _ _ _ (by omega)]; exact h.w
  · obtain ⟨r1, r2, r3, r4, r5⟩ := SF_r _ z
    rw [sC_o _ _ _ _ (by decide), sA_ne _ _ _ _ (by dsimp only at *; omega)]
    exact h.f i' j' z
theorem rel_wset {d : Int32} {C : CS} {M : ARR} (k : Nat) (hk : k < 16) {v : Int32} (hv : bn 0 255 v) (h : RelD d C (M 0)) : RelD d (sC C 2 k v) (sA M 0 (16 + k) v 0) := by
  refine ⟨fun q hq => ?_, fun q hq => ?_, fun q N hN h16 hq => ?_, fun q hq => ?_, fun q hq => ?_, ?_, fun i' j' z => ?_⟩
  · rw [sC_o _ _ _ _ (by decide), sA_ne _ _ _ _ (by omega)]; exact h.l q hq
  · rw [sC_o _ _ _ _ (by decide), sA_ne _ _ _ _ (by omega)]; exact h.u q hq
  · rw [sA_ne _ _ _ _ (by omega)] at hN
    by_cases e : q = k
    · subst e; rw [sC_e, sA_e]
    · rw [sC_ne _ _ _ _ e, sA_ne _ _ _ _ (by omega)]; exact h.s q N hN h16 hq
  · by_cases e : q = k
    · subst e; rw [sC_e]; exact hv
    · rw [sC_ne _ _ _ _ e]; exact h.t q hq
  · rw [sC_o _ _ _ _ (by decide), sA_ne _ _ _ _ (by omega)]; exact h.e q hq
  · rw [sC_o _ _ _ _ (by decide), sA_ne _ _ _ _ (by omega)]; exact h.w
  · obtain ⟨r1, r2, r3, r4, r5⟩ := SF_r _ z
    rw [sC_o _ _ _ _ (by decide), sA_ne _ _ _ _ (by dsimp only at *; omega)]
    exact h.f i' j' z
theorem sA0 (M : ARR) (k : Nat) (v : Int32) : sA M 0 k v 0 = upd (M 0) k v := by simp [sA]
theorem rem_0 (M : ARR) : F_M_remember M 0 = M 0 := rem_o M (by decide)
theorem rem_1 (M : ARR) {j : Nat} (hj : j < 55) : F_M_remember M 1 j = M 0 j := by
  unfold F_M_remember
  (try dsimp only)
  rw [sR_e, cpy55_lt hj]
theorem relE_a {B : Nat} {C : CS} {M : ARR} (h : RelE B C (M 0)) (i k j : Nat) (v w : Int32) (h1 : j ≠ 46) (h2 : j ≠ 54) : RelE B (sC C i k v) (sA M 0 j w 0) := relE_c h rfl (sA_ne _ _ _ _ (Ne.symm h1)) (sA_ne _ _ _ _ (Ne.symm h2))
theorem sets_ne {B B' : Nat} {S : SLS} {M : ARR} (h : RS B S M) (hB : B ≤ B') {i : Int32} {k : Nat} (hi : i.toNatClampNeg = k) {v : Int32} (hv : ¬ M 0 k = v) {C' : CS} (hC : CR B' C' (sA M 0 k v 0)) : (F_M_sets M i v).1 = M 0 k ∧ RS B' (sSC (F_S_recordState S) 0 C') (F_M_sets M i v).2 := by
  have e : F_M_sets M i v = ((F_M_acted (sA (F_M_remember M) 0 k v) (M 0 k)).1, (F_M_acted (sA (F_M_remember M) 0 k v) (M 0 k)).2) := by
    unfold F_M_sets
    dsimp only
    rw [hi, if_neg hv]
  rw [e]
  exact sim_act h hB (fun j hj => by rw [sA_o _ _ _ _ (by decide)]; exact rem_1 M hj) (fun i h0 h1 => by rw [sA_o _ _ _ _ h0]; exact rem_o M h1) (by rw [sA0, rem_0, ← sA0]; exact hC) _
theorem sets_same {M : ARR} {i : Int32} {k : Nat} (hi : i.toNatClampNeg = k) {v : Int32} (hv : M 0 k = v) : F_M_sets M i v = (-5, M) := by
  unfold F_M_sets
  dsimp only
  rw [hi, if_pos hv]
theorem sSC_SC (S : SLS) (i : Nat) (c c' : CS) : sSC (sSC S i c) i c' = sSC S i c' := by
  unfold sSC
  congr 1
  funext j
  dsimp only
  split <;> rfl
/-! the acts -/
theorem sim_addPath {B : Nat} {S : SLS} {M : ARR} (h : RS B S M) (a : Int32) : (F_S_addPath S a).1 = (F_M_addPath M a).1 ∧ RS B (F_S_addPath S a).2 (F_M_addPath M a).2 := by
  obtain ⟨P, p1, p8, hS, hM⟩ := h.P
  unfold F_S_addPath F_M_addPath
  dsimp only
  rw [isLength_eq]
  by_cases c1 : F_M_isLength a = 0
  · simp only [if_pos c1]; exact ⟨trivial, h⟩
  simp only [if_neg c1]
  have hla : bn 10 400 a := in_bn 10 400 (by omega) (x := a) rfl c1
  rw [rec_1 S (by omega), hS, rem_0, hM]
  by_cases c2 : P = 8
  · subst c2
    rw [if_neg (show ¬ nI 8 < (8 : Int32) by decide), if_pos (show nI 8 = (8 : Int32) from rfl)]
    exact ⟨rfl, h⟩
  · rw [if_pos (show nI P < (8 : Int32) from nI_lt (b := 8) (by omega) (by omega)), if_neg (show ¬ nI P = (8 : Int32) from fun q => c2 ((nI_eq (a := P) (b := 8) (by omega) (by omega)).mp q))]
    have ek : (nI P).toNatClampNeg = P := nI_clamp (by omega)
    have ek0 : ((0 : Int32) + nI P).toNatClampNeg = P := by rw [Int32.zero_add]; exact ek
    rw [ek, ek0, sA_ne _ _ _ _ (show 51 ≠ P by omega), rem_0, hM, sSC_SC, sSC_e, sA_e]
    have e3 : nI P + (1 : Int32) = nI (P + 1) := nI_1 P
    rw [e3, show nI (P + 1) - (1 : Int32) = nI P from nI_pred P]
    obtain ⟨e1, e2⟩ := sim_act (M2 := sA (sA (F_M_remember M) 0 P a) 0 51 (nI (P + 1))) h (Nat.le_refl B) (fun j hj => by rw [sA_o _ _ _ _ (by decide), sA_o _ _ _ _ (by decide)]; exact rem_1 M hj) (fun i h0 h1 => by rw [sA_o _ _ _ _ h0, sA_o _ _ _ _ h0]; exact rem_o M h1) (C' := sC (sC (S.1 0) 0 P a) 4 2 (nI (P + 1))) (by
      have r0 : sA (sA (F_M_remember M) 0 P a) 0 51 (nI (P + 1)) 0 = sA (sA M 0 P a) 0 51 (nI (P + 1)) 0 := by simp only [sA0, rem_0]
      rw [r0]
      exact ⟨rel_put 2 51 (rel_len P (by omega) h.c.1) (by decide) (by decide) rfl, IA_set (IA_set h.I P a (IV_len (by omega) (bn_w hla (by omega) (by omega)))) 51 _ (IV_51 ⟨P + 1, by omega, by omega, rfl⟩), relE_a (relE_a h.c.2.2 0 P P a a (by omega) (by omega)) 4 2 51 _ _ (by decide) (by decide)⟩) (nI P)
    exact ⟨e1.symm, e2⟩
theorem sim_setLength {B : Nat} {S : SLS} {M : ARR} (h : RS B S M) (a1 a2 : Int32) : (F_S_setLength S a1 a2).1 = (F_M_setLength M a1 a2).1 ∧ RS B (F_S_setLength S a1 a2).2 (F_M_setLength M a1 a2).2 := by
  obtain ⟨P, p1, p8, hS, hM⟩ := h.P
  unfold F_S_setLength F_M_setLength
  dsimp only
  rw [isPath_eq hS hM p1 p8 a1, isLength_eq]
  by_cases c1 : F_M_isPath M a1 = 0
  · simp only [if_pos c1]; exact ⟨trivial, h⟩
  simp only [if_neg c1]
  by_cases c2 : F_M_isLength a2 = 0
  · simp only [if_pos c2]; exact ⟨trivial, h⟩
  simp only [if_neg c2]
  have hla : bn 10 400 a2 := in_bn 10 400 (by omega) (x := a2) rfl c2
  obtain ⟨k, hk, rfl⟩ := isPath_P hM p1 p8 rfl c1
  have ek : (nI k).toNatClampNeg = k := nI_clamp (by omega)
  have ek0 : ((0 : Int32) + nI k).toNatClampNeg = k := by rw [Int32.zero_add]; exact ek
  have hv : (S.1 0).1 0 k = M 0 k := h.c.1.l k (by omega)
  rw [ek, hv]
  by_cases c3 : M 0 k = a2
  · rw [sets_same ek0 c3]; simp only [if_pos c3]; exact ⟨trivial, h⟩
  · simp only [if_neg c3]
    obtain ⟨e1, e2⟩ := sets_ne h (Nat.le_refl B) ek0 c3 (C' := sC (S.1 0) 0 k a2) ⟨rel_len k (by omega) h.c.1, IA_set h.I k a2 (IV_len (by omega) (bn_w hla (by omega) (by omega))), relE_a h.c.2.2 0 k k a2 a2 (by omega) (by omega)⟩
    rw [rec_1 S (by omega)]
    exact ⟨e1.symm, e2⟩
theorem sim_setVoltage {B : Nat} {S : SLS} {M : ARR} (h : RS B S M) (a : Int32) : (F_S_setVoltage S a).1 = (F_M_setVoltage M a).1 ∧ RS B (F_S_setVoltage S a).2 (F_M_setVoltage M a).2 := by
  unfold F_S_setVoltage F_M_setVoltage
  dsimp only
  rw [isVoltage_eq]
  by_cases c1 : F_M_isVoltage a = 0
  · simp only [if_pos c1]; exact ⟨trivial, h⟩
  simp only [if_neg c1]
  have hla : bn 500 1200 a := in_bn 500 1200 (by omega) (x := a) rfl c1
  have ek : (39 : Int32).toNatClampNeg = 39 := by decide +kernel
  have hv : (S.1 0).1 4 7 = M 0 39 := h.c.1.f 7 39 (by decide)
  rw [hv]
  by_cases c3 : M 0 39 = a
  · rw [sets_same ek c3]; simp only [if_pos c3]; exact ⟨trivial, h⟩
  · simp only [if_neg c3]
    obtain ⟨e1, e2⟩ := sets_ne h (Nat.le_refl B) ek c3 (C' := sC (S.1 0) 4 7 a) ⟨rel_put 7 39 h.c.1 (by decide) (by decide) rfl, IA_set h.I 39 a (IV_39 hla), relE_a h.c.2.2 4 7 39 a a (by decide) (by decide)⟩
    rw [rec_1 S (by omega)]
    exact ⟨e1.symm, e2⟩
theorem isSett_k (a : Int32) : ∀ k : Nat, k < 7 → F_M_isSetting (nI k) a = F_S_isWithin a (leastS k) (mostS k)
  | 0, _ => by unfold F_M_isSetting; rw [if_pos (by decide +kernel)]; exact (wi_in 50 1000 (by omega) a).symm
  | 1, _ => by unfold F_M_isSetting; rw [if_neg (by decide +kernel), if_pos (by decide +kernel)]; exact (wi_in 0 200 (by omega) a).symm
  | 2, _ => by unfold F_M_isSetting; rw [if_neg (by decide +kernel), if_neg (by decide +kernel), if_pos (by decide +kernel)]; exact (wi_in 1 20 (by omega) a).symm
  | 3, _ => by unfold F_M_isSetting; rw [if_neg (by decide +kernel), if_neg (by decide +kernel), if_neg (by decide +kernel), if_pos (by decide +kernel)]; exact (wi_in 10 500 (by omega) a).symm
  | 4, _ => by unfold F_M_isSetting; rw [if_neg (by decide +kernel), if_neg (by decide +kernel), if_neg (by decide +kernel), if_neg (by decide +kernel), if_pos (by decide +kernel)]; exact (wi_in 0 100 (by omega) a).symm
  | 5, _ => by unfold F_M_isSetting; rw [if_neg (by decide +kernel), if_neg (by decide +kernel), if_neg (by decide +kernel), if_neg (by decide +kernel), if_neg (by decide +kernel), if_pos (by decide +kernel)]; exact (wi_in 1 50 (by omega) a).symm
  | 6, _ => by
    unfold F_M_isSetting
    rw [if_neg (by decide +kernel), if_neg (by decide +kernel), if_neg (by decide +kernel), if_neg (by decide +kernel), if_neg (by decide +kernel), if_neg (by decide +kernel)]
    dsimp only
    rw [if_pos (by decide +kernel)]
    refine Eq.trans ?_ (wi_in 1 10 (by omega) a).symm
    show (if F_M_in a.toInt64 (lN 1) (lN 10) = 0 then (0 : Int32) else 1) = _
    rcases bl_in a.toInt64 (lN 1) (lN 10) with q | q
    · rw [q]; rfl
    · rw [q]; rfl
theorem IV_sett {a : Int32} : ∀ k : Nat, k < 7 → ¬ F_S_isWithin a (leastS k) (mostS k) = 0 → IV (32 + k) a
  | 0, _, c => IV_32 (wi_bn 50 1000 (by omega) (x := a) rfl c)
  | 1, _, c => IV_33 (wi_bn 0 200 (by omega) (x := a) rfl c)
  | 2, _, c => IV_34 (wi_bn 1 20 (by omega) (x := a) rfl c)
  | 3, _, c => IV_35 (wi_bn 10 500 (by omega) (x := a) rfl c)
  | 4, _, c => IV_36 (wi_bn 0 100 (by omega) (x := a) rfl c)
  | 5, _, c => IV_37 (wi_bn 1 50 (by omega) (x := a) rfl c)
  | 6, _, c => IV_38 (wi_bn 1 10 (by omega) (x := a) rfl c)
theorem sim_set {B : Nat} {S : SLS} {M : ARR} (h : RS B S M) (a1 a2 : Int32) : (F_S_set S a1 a2).1 = (F_M_set M a1 a2).1 ∧ RS B (F_S_set S a1 a2).2 (F_M_set M a1 a2).2 := by
  unfold F_S_set F_M_set
  dsimp only
  by_cases c1 : F_S_isWithin a1 (0 : Int32) (6 : Int32) = 0
  · have c2 : F_M_isSetting a1 a2 = 0 := by
      by_cases q : F_M_isSetting a1 a2 = 0
      · exact q
      · obtain ⟨k, hk, rfl⟩ := isSetting_lt rfl q
        exfalso
        rw [wi_eq, if_pos ⟨show nI 0 ≤ nI k from nI_le (by omega) (by omega), show nI k ≤ nI 6 from nI_le (by omega) (by omega)⟩] at c1
        exact absurd c1 (by decide)
    simp only [if_pos c1, if_pos c2]; exact ⟨trivial, h⟩
  · obtain ⟨k, _, hk, rfl⟩ := wi_bn 0 6 (by omega) (x := a1) rfl c1
    have ek : (nI k).toNatClampNeg = k := nI_clamp (by omega)
    have ek0 : ((32 : Int32) + nI k).toNatClampNeg = 32 + k := by rw [show (32 : Int32) + nI k = nI (32 + k) from nI_add 32 k]; exact nI_clamp (by omega)
    rw [isSett_k a2 k (by omega), ek]
    simp only [if_neg c1]
    by_cases c2 : F_S_isWithin a2 (leastS k) (mostS k) = 0
    · simp only [if_pos c2]; exact ⟨trivial, h⟩
    simp only [if_neg c2]
    have hv : (S.1 0).1 3 k = M 0 (32 + k) := h.c.1.e k (by omega)
    rw [hv]
    by_cases c3 : M 0 (32 + k) = a2
    · rw [sets_same ek0 c3]; simp only [if_pos c3]; exact ⟨trivial, h⟩
    · simp only [if_neg c3]
      obtain ⟨e1, e2⟩ := sets_ne h (Nat.le_refl B) ek0 c3 (C' := sC (S.1 0) 3 k a2) ⟨rel_sett k (by omega) h.c.1, IA_set h.I _ a2 (IV_sett k (by omega) c2), relE_a h.c.2.2 3 k (32 + k) a2 a2 (by omega) (by omega)⟩
      rw [rec_1 S (by omega)]
      exact ⟨e1.symm, e2⟩
theorem sim_govern {B : Nat} {S : SLS} {M : ARR} (h : RS B S M) {a : Int32} (ha : a = 0 ∨ a = 1) : (F_S_govern S a).1 = (F_M_govern M a).1 ∧ RS B (F_S_govern S a).2 (F_M_govern M a).2 := by
  unfold F_S_govern F_M_govern
  dsimp only
  have ea : (if a = (0 : Int32) then (0 : Int32) else (1 : Int32)) = a := by rcases ha with rfl | rfl <;> rfl
  rw [ea, h.c.1.f 9 41 (by decide)]
  by_cases c1 : M 0 41 = a
  · simp only [if_pos c1]; exact ⟨trivial, h⟩
  simp only [if_neg c1]
  rw [sSC_SC, sSC_e, sSC_e, rec_1 S (by omega)]
  have r0 : sA (sA (sA (F_M_remember M) 0 41 a) 0 47 0) 0 48 0 0 = sA (sA (sA M 0 41 a) 0 47 0) 0 48 0 0 := by simp only [sA0, rem_0]
  have hba : bn 0 1 a := by
    rcases ha with rfl | rfl
    · exact ⟨0, by omega, by omega, rfl⟩
    · exact ⟨1, by omega, by omega, rfl⟩
  obtain ⟨e1, e2⟩ := sim_act (M2 := sA (sA (sA (F_M_remember M) 0 41 a) 0 47 0) 0 48 0) h (Nat.le_refl B) (fun j hj => by rw [sA_o _ _ _ _ (by decide), sA_o _ _ _ _ (by decide), sA_o _ _ _ _ (by decide)]; exact rem_1 M hj) (fun i h0 h1 => by rw [sA_o _ _ _ _ h0, sA_o _ _ _ _ h0, sA_o _ _ _ _ h0]; exact rem_o M h1) (C' := F_C_beginWindow (sC (S.1 0) 4 9 a)) (by
    rw [r0]
    exact ⟨sim_begin (rel_put 9 41 h.c.1 (by decide) (by decide) rfl), IA_put (IA_put (IA_set h.I 41 a (IV_41 hba)) 47 0 (by omega)) 48 0 (by omega), relE_a (relE_a (relE_a h.c.2.2 4 9 41 a a (by decide) (by decide)) 4 10 47 0 0 (by decide) (by decide)) 4 11 48 0 0 (by decide) (by decide)⟩) ((sA (sA (sA (F_M_remember M) 0 41 a) 0 47 0) 0 48 0) 0 39)
  refine ⟨?_, e2⟩
  rw [e1, r0, sA_ne _ _ _ _ (by decide), sA_ne _ _ _ _ (by decide), sA_ne _ _ _ _ (by decide)]
  exact h.c.1.f 7 39 (by decide)
theorem sim_run {B : Nat} {S : SLS} {M : ARR} (h : RS B S M) (a : Int32) : (F_S_run S a).1 = (F_M_run M a).1 ∧ RS (B + 6336000) (F_S_run S a).2 (F_M_run M a).2 := by
  unfold F_S_run F_M_run
  dsimp only
  rw [show F_S_isWithin a (1 : Int32) (2000 : Int32) = F_M_in a.toInt64 (1 : Int64) (2000 : Int64) from wi_in 1 2000 (by omega) a]
  by_cases c1 : F_M_in a.toInt64 (1 : Int64) (2000 : Int64) = 0
  · simp only [if_pos c1]; exact ⟨trivial, h.up (by omega)⟩
  simp only [if_neg c1]
  obtain ⟨K, k1, k2, rfl⟩ := in_bn 1 2000 (by omega) (x := a) rfl c1
  rw [sSC_e, rec_1 S (by omega), runs_stepN k2, run_cycN (K := K) (by omega) rfl 2001 0 _ 0 nI_0.symm (by omega) (by omega), Nat.sub_zero]
  obtain ⟨d1, d2, d3⟩ := sim_cycN K B (S.1 0) (F_M_remember M) (by rw [rem_0]; exact h.c.1) (by rw [rem_0]; exact h.I) (by rw [rem_0]; exact h.c.2.2)
  have hq1 : ∀ i, i ≠ 0 → cycN K (F_M_remember M) i = F_M_remember M i := fun i hi => cycN_o K _ hi
  obtain ⟨e1, e2⟩ := sim_act (M2 := cycN K (F_M_remember M)) h (B' := B + 6336000) (by omega) (fun j hj => by rw [hq1 1 (by decide)]; exact rem_1 M hj) (fun i h0 h1 => by rw [hq1 i h0]; exact rem_o M h1) (C' := stepN K (S.1 0)) (CR.up ⟨d1, d2, d3⟩ (by omega)) ((cycN K (F_M_remember M) 0 44) - (cycN K (F_M_remember M) 1 44))
  refine ⟨?_, e2⟩
  rw [e1, hq1 1 (by decide), rem_1 M (by omega), d1.f 14 44 (by decide), h.c.1.f 14 44 (by decide)]
theorem sim_keep {B : Nat} {S : SLS} {M : ARR} (h : RS B S M) : (F_S_keep S).1 = (F_M_keep M).1 ∧ RS B (F_S_keep S).2 (F_M_keep M).2 := by
  unfold F_S_keep F_M_keep
  dsimp only
  refine ⟨?_, ?_⟩
  · rw [sV_1, sSC_ne _ _ (by decide), sA_o _ _ _ _ (by decide), sR_o _ _ _ (by decide)]
    exact h.c.1.f 7 39 (by decide)
  · obtain ⟨n, n4, a2, a3, a4⟩ := h.h
    obtain ⟨t, t1, t2, t3, t4⟩ := h.t
    refine ⟨?_, ⟨n, n4, ?_, ?_, fun k hk => ?_⟩, ⟨?_, ?_, fun _ => ?_⟩, ⟨t, t1, ?_, ?_, fun k hk => ?_⟩, fun i hi => ?_⟩
    · rw [sV_1, sSC_ne _ _ (by decide), sA_o _ _ _ _ (by decide), sR_o _ _ _ (by decide)]; exact h.c
    · rw [sV_ne _ _ (by decide), sSC_2]; exact a2
    · rw [sA_ne _ _ _ _ (by decide), sR_o _ _ _ (by decide)]; exact a3
    · rw [sV_1, sSC_ne _ _ (by omega), sA_o _ _ _ _ (by decide), sR_o _ _ _ (by decide)]; exact a4 k hk
    · rw [sV_e, sA_e]
    · rw [sV_e]; exact Or.inr rfl
    · rw [sV_1, sSC_e, sA_o _ _ _ _ (by decide), sR_e]
      exact h.c.cp.cg (fun j hj => cpy55_lt hj)
    · rw [sV_T, sSC_2]; exact t2
    · rw [sA_ne _ _ _ _ (by decide), sR_o _ _ _ (by decide)]; exact t3
    · rw [sV_T, sSC_2, sA_o _ _ _ _ (by decide), sR_o _ _ _ (by decide)]; exact t4 k hk
    · rw [sV_1]
      by_cases q : i = 1
      · subst q; rw [sSC_e, cpC_4 _ _ (by decide)]; exact h.g 0 (by omega)
      · rw [sSC_ne _ _ q]; exact h.g i hi
theorem L22_spec {g : Nat} (hg : g ≤ 3) : ∀ (n : Nat) (x : Int32) (M : ARR) (k : Nat), x = nI k → k ≤ 55 → 56 ≤ k + n → M 7 4 = nI g → ∀ i j : Nat, L_M_undo_22 n x M i j = if i = 0 ∧ k ≤ j ∧ j < 55 then M 3 (55 * g + j) else M i j
  | 0, x, M, k, hx, hk, hn, hM, i, j => by exfalso; omega
  | n + 1, x, M, k, hx, hk, hn, hM, i, j => by
    subst hx
    simp only [L_M_undo_22]
    by_cases h : 55 ≤ k
    · rw [if_pos (show (55 : Int32) ≤ nI k from nI_le (a := 55) h (by omega)), if_neg (by omega)]
    · rw [if_neg (show ¬ (55 : Int32) ≤ nI k from fun q => h ((nI_leI (a := 55) (by omega) (by omega)).mp q))]
      have e1 : (nI k).toNatClampNeg = k := nI_clamp (by omega)
      have e2 : (((55 : Int32) * (M 7 4)) + nI k).toNatClampNeg = 55 * g + k := by
        rw [hM, show (55 : Int32) * nI g = nI (55 * g) from (Int32.ofNat_mul 55 g).symm, nI_add, nI_clamp (by omega)]
      rw [L22_spec hg n _ _ (k + 1) (nI_1 k) (by omega) (by omega) (by rw [sA_o _ _ _ _ (by decide)]; exact hM) i j]
      rw [e1, e2]
      by_cases q : i = 0
      · subst q
        by_cases q2 : k + 1 ≤ j ∧ j < 55
        · rw [if_pos ⟨rfl, q2⟩, if_pos ⟨rfl, by omega, q2.2⟩, sA_o _ _ _ _ (by decide)]
        · rw [if_neg (fun z => q2 z.2)]
          by_cases q3 : j = k
          · subst q3
            rw [if_pos ⟨rfl, Nat.le_refl _, by omega⟩, sA_e]
          · rw [if_neg (by omega), sA_ne _ _ _ _ q3]
      · rw [if_neg (fun z => q z.1), if_neg (fun z => q z.1), sA_o _ _ _ _ q]
theorem sim_undo {B : Nat} {S : SLS} {M : ARR} (h : RS B S M) : (F_S_undo S).1 = (F_M_undo M).1 ∧ RS B (F_S_undo S).2 (F_M_undo M).2 := by
  unfold F_S_undo F_M_undo
  dsimp only
  obtain ⟨n, n4, a2, a3, a4⟩ := h.h
  rw [a2, a3]
  by_cases c1 : nI n = 0
  · simp only [if_pos c1]; exact ⟨trivial, h⟩
  simp only [if_neg c1]
  obtain ⟨g, rfl⟩ : ∃ g, n = g + 1 := ⟨n - 1, by
    have : n ≠ 0 := fun z => c1 (by rw [z]; exact nI_0)
    omega⟩
  rw [show nI (g + 1) - (1 : Int32) = nI g from nI_pred g]
  obtain ⟨X, eX⟩ : ∃ X : ARR, X = L_M_undo_22 56 (0 : Int32) (sA M 7 4 (nI g)) := ⟨_, rfl⟩
  have e1 : ∀ i j : Nat, X i j = if i = 0 ∧ 0 ≤ j ∧ j < 55 then sA M 7 4 (nI g) 3 (55 * g + j) else sA M 7 4 (nI g) i j := by
    rw [eX]; exact L22_spec (g := g) (by omega) 56 0 _ 0 nI_0.symm (by omega) (by omega) (sA_e _ _ _ _)
  rw [← eX]
  clear eX
  have hX : ∀ i, i ≠ 0 → X i = sA M 7 4 (nI g) i := fun i hi => funext fun j => by rw [e1, if_neg (fun z => hi z.1)]
  rw [sV_e, nI_clamp (show g < 2 ^ 31 by omega)]
  refine ⟨?_, ?_⟩
  · rw [sSC_2, sV_e, hX 7 (by decide), sA_e]
  · obtain ⟨t, t1, t2, t3, t4⟩ := h.t
    refine ⟨?_, ⟨g, by omega, ?_, ?_, fun k hk => ?_⟩, ⟨?_, ?_, fun q => ?_⟩, ⟨t, t1, ?_, ?_, fun k hk => ?_⟩, fun i hi => ?_⟩
    · rw [sSC_e]
      refine ((a4 g (by omega)).cp).cg (fun j hj => ?_)
      rw [e1, if_pos ⟨rfl, by omega, hj⟩, sA_o _ _ _ _ (by decide)]
    · rw [sSC_2, sV_e]
    · rw [hX 7 (by decide), sA_e]
    · rw [sSC_ne _ _ (by omega), hX 3 (by decide), sA_o _ _ _ _ (by decide), sV_1]; exact a4 k (by omega)
    · rw [sSC_2, sV_ne _ _ (by decide), hX 7 (by decide), sA_ne _ _ _ _ (by decide)]; exact h.k.1
    · rw [sSC_2, sV_ne _ _ (by decide)]; exact h.k.2.1
    · rw [sSC_2, sV_ne _ _ (by decide)] at q
      rw [sSC_ne _ _ (by decide), hX 4 (by decide), sA_o _ _ _ _ (by decide), sV_1]; exact h.k.2.2 q
    · rw [sSC_2, sV_T]; exact t2
    · rw [hX 7 (by decide), sA_ne _ _ _ _ (by decide)]; exact t3
    · rw [sSC_2, sV_T, hX 5 (by decide), sA_o _ _ _ _ (by decide)]; exact t4 k hk
    · by_cases q : i = 0
      · subst q; rw [sSC_e, cpC_4 _ _ (by decide), sV_1]; exact h.g _ (by omega)
      · rw [sSC_ne _ _ q, sV_1]; exact h.g i hi
theorem sim_restore {B : Nat} {S : SLS} {M : ARR} (h : RS B S M) : (F_S_restore S).1 = (F_M_restore M).1 ∧ RS B (F_S_restore S).2 (F_M_restore M).2 := by
  unfold F_S_restore F_M_restore
  dsimp only
  obtain ⟨k1, k2, k3⟩ := h.k
  rw [← k1]
  by_cases c1 : S.2.2 6 = 0
  · simp only [if_pos c1]; exact ⟨trivial, h⟩
  simp only [if_neg c1]
  have hk := k3 (k2.resolve_left c1)
  rw [sSC_e, rec_1 S (by omega), rec_1 S (by omega)]
  have hC : CR B (cpC (S.1 0) (S.1 1)) ((sR (F_M_remember M) 0 (cpy55 (F_M_remember M 4) (F_M_remember M 0))) 0) := by
    rw [sR_e, rem_o M (by decide)]
    exact hk.cp.cg (fun j hj => cpy55_lt hj)
  obtain ⟨e1, e2⟩ := sim_act (M2 := sR (F_M_remember M) 0 (cpy55 (F_M_remember M 4) (F_M_remember M 0))) h (Nat.le_refl B) (fun j hj => by rw [sR_o _ _ _ (by decide)]; exact rem_1 M hj) (fun i h0 h1 => by rw [sR_o _ _ _ h0]; exact rem_o M h1) hC ((sR (F_M_remember M) 0 (cpy55 (F_M_remember M 4) (F_M_remember M 0))) 0 39)
  exact ⟨by rw [e1]; exact hC.1.f 7 39 (by decide), e2⟩
theorem sim_clearText {B : Nat} {S : SLS} {M : ARR} (h : RS B S M) : (F_S_clearText S).1 = (F_M_clearText M).1 ∧ RS B (F_S_clearText S).2 (F_M_clearText M).2 := by
  unfold F_S_clearText F_M_clearText
  dsimp only
  obtain ⟨t, t1, t2, t3, t4⟩ := h.t
  obtain ⟨n, n4, a2, a3, a4⟩ := h.h
  refine ⟨by rw [t2, t3], ?_, ⟨n, n4, a2, ?_, fun k hk => ?_⟩, ⟨?_, h.k.2.1, fun q => ?_⟩, ⟨0, by omega, ?_, ?_, fun k hk => absurd hk (by omega)⟩, h.g⟩
  · rw [sA_o _ _ _ _ (by decide)]; exact h.c
  · rw [sA_ne _ _ _ _ (by decide)]; exact a3
  · rw [sA_o _ _ _ _ (by decide)]; exact a4 k hk
  · rw [sA_ne _ _ _ _ (by decide)]; exact h.k.1
  · rw [sA_o _ _ _ _ (by decide)]; exact h.k.2.2 q
  · rw [sT_T, sA_e]; exact nI_0.symm
  · rw [sA_e]; exact nI_0.symm
theorem sim_type {B : Nat} {S : SLS} {M : ARR} (h : RS B S M) {a : Int32} (ha : bn 0 65535 a) : (F_S_type S a).1 = (F_M_type M a).1 ∧ RS B (F_S_type S a).2 (F_M_type M a).2 := by
  unfold F_S_type F_M_type F_T_append
  dsimp only
  obtain ⟨t, t1, t2, t3, t4⟩ := h.t
  obtain ⟨n, n4, a2, a3, a4⟩ := h.h
  rw [t2, t3]
  by_cases c1 : t = 60
  · subst c1
    simp only [if_neg (show ¬ nI 60 < (60 : Int32) by decide), if_pos (show nI 60 = (60 : Int32) from rfl), if_pos trivial]
    exact ⟨trivial, h⟩
  · simp only [if_pos (show nI t < (60 : Int32) from nI_lt (b := 60) (by omega) (by omega)), if_neg (show ¬ nI t = (60 : Int32) from fun q => c1 ((nI_eq (a := t) (b := 60) (by omega) (by omega)).mp q)), if_neg (show ¬ (1 : Int32) = 0 by decide)]
    rw [nI_clamp (show t < 2 ^ 31 by omega), sA_o _ _ _ _ (show 2 ≠ 0 by decide), t2, sA_o _ _ _ _ (show 7 ≠ 5 by decide), t3, nI_1, sT_T, sA_e, sA_e]
    refine ⟨rfl, ?_, ⟨n, n4, a2, ?_, fun k hk => ?_⟩, ⟨?_, h.k.2.1, fun q => ?_⟩, ⟨t + 1, by omega, ?_, ?_, fun k hk => ?_⟩, h.g⟩
    · rw [sA_o _ _ _ _ (by decide), sA_o _ _ _ _ (by decide)]; exact h.c
    · rw [sA_ne _ _ _ _ (by decide), sA_o _ _ _ _ (by decide)]; exact a3
    · rw [sA_o _ _ _ _ (by decide), sA_o _ _ _ _ (by decide)]; exact a4 k hk
    · rw [sA_ne _ _ _ _ (by decide), sA_o _ _ _ _ (by decide)]; exact h.k.1
    · rw [sA_o _ _ _ _ (by decide), sA_o _ _ _ _ (by decide)]; exact h.k.2.2 q
    · rw [sT_T, sA_e]
    · rw [sA_e]
    · rw [sT_T, sA_o _ _ _ _ (show (0 : Nat) ≠ 2 by decide), sA_o _ _ _ _ (show (5 : Nat) ≠ 7 by decide)]
      by_cases q : k = t
      · subst q; rw [sA_e, sA_e]; exact ⟨rfl, ha⟩
      · rw [sA_ne _ _ _ _ q, sA_ne _ _ _ _ q]; exact t4 k (by omega)
