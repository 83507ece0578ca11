/-! the system against the reference: what holds between them -/
def CR (B : Nat) (C : CS) (a : Nat → Int32) : Prop := RelD 0 C a ∧ IA a ∧ RelE B C a
theorem CR.ok {B : Nat} {C : CS} {a : Nat → Int32} (h : CR B C a) : OKC C := ⟨a, h.1, h.2.1, B, h.2.2⟩
theorem CR.up {B B' : Nat} {C : CS} {a : Nat → Int32} (h : CR B C a) (hb : B ≤ B') : CR B' C a := by
  obtain ⟨h1, h2, E, h3, h4⟩ := h
  exact ⟨h1, h2, E, by omega, h4⟩
theorem CR.cg {B : Nat} {C : CS} {a b : Nat → Int32} (h : CR B C a) (e : ∀ j, j < 55 → b j = a j) : CR B C b :=
  ⟨rel_a h.1 e, IA_congr h.2.1 e, relE_c h.2.2 rfl (e 46 (by omega)) (e 54 (by omega))⟩
theorem CR.cp {B : Nat} {C C' : CS} {a : Nat → Int32} (h : CR B C a) : CR B (cpC C' C) a := ⟨rel_cp h.1, h.2.1, relE_cp h.2.2⟩
def RS (B : Nat) (S : SLS) (M : ARR) : Prop :=
  CR B (S.1 0) (M 0) ∧ (∃ h : Nat, h ≤ 4 ∧ S.2.2 5 = nI h ∧ M 7 4 = nI h ∧ ∀ k, k < h → CR B (S.1 (3 + k)) (fun j => M 3 (55 * k + j))) ∧
  (S.2.2 6 = M 7 6 ∧ (S.2.2 6 = 0 ∨ S.2.2 6 = 1) ∧ (S.2.2 6 = 1 → CR B (S.1 1) (M 4))) ∧
  (∃ t : Nat, t ≤ 60 ∧ S.2.1 2 1 = nI t ∧ M 7 8 = nI t ∧ ∀ k, k < t → S.2.1 0 k = M 5 k ∧ bn 0 65535 (M 5 k)) ∧
  ∀ i, i < 7 → (S.1 i).1 4 9 = 0 ∨ (S.1 i).1 4 9 = 1
theorem RS.c {B : Nat} {S : SLS} {M : ARR} (h : RS B S M) : CR B (S.1 0) (M 0) := h.1
theorem RS.h {B : Nat} {S : SLS} {M : ARR} (h : RS B S M) : ∃ h : Nat, h ≤ 4 ∧ S.2.2 5 = nI h ∧ M 7 4 = nI h ∧ ∀ k, k < h → CR B (S.1 (3 + k)) (fun j => M 3 (55 * k + j)) := h.2.1
theorem RS.k {B : Nat} {S : SLS} {M : ARR} (h : RS B S M) : S.2.2 6 = M 7 6 ∧ (S.2.2 6 = 0 ∨ S.2.2 6 = 1) ∧ (S.2.2 6 = 1 → CR B (S.1 1) (M 4)) := h.2.2.1
theorem RS.t {B : Nat} {S : SLS} {M : ARR} (h : RS B S M) : ∃ t : Nat, t ≤ 60 ∧ S.2.1 2 1 = nI t ∧ M 7 8 = nI t ∧ ∀ k, k < t → S.2.1 0 k = M 5 k ∧ bn 0 65535 (M 5 k) := h.2.2.2.1
theorem RS.g {B : Nat} {S : SLS} {M : ARR} (h : RS B S M) : ∀ i, i < 7 → (S.1 i).1 4 9 = 0 ∨ (S.1 i).1 4 9 = 1 := h.2.2.2.2
theorem RS.ok {B : Nat} {S : SLS} {M : ARR} (h : RS B S M) : OKS S := by
  obtain ⟨n, h1, h2, _⟩ := h.h
  obtain ⟨t, h3, h4, _⟩ := h.t
  exact ⟨h.c.ok, h.g, ⟨n, by omega, h1, h2⟩, ⟨t, by omega, h3, h4⟩, h.k.2.1⟩
theorem RS.I {B : Nat} {S : SLS} {M : ARR} (h : RS B S M) : IA (M 0) := h.c.2.1
theorem RS.h4 {B : Nat} {S : SLS} {M : ARR} (h : RS B S M) : bn 0 4 (M 7 4) := by
  obtain ⟨n, h1, _, h2, _⟩ := h.h
  exact ⟨n, by omega, h1, h2⟩
theorem RS.t6 {B : Nat} {S : SLS} {M : ARR} (h : RS B S M) : bn 0 60 (M 7 8) := by
  obtain ⟨n, h1, _, h2, _⟩ := h.t
  exact ⟨n, by omega, h1, h2⟩
theorem RS.up {B B' : Nat} {S : SLS} {M : ARR} (h : RS B S M) (hb : B ≤ B') : RS B' S M := by
  obtain ⟨h1, ⟨n, a1, a2, a3, a4⟩, ⟨b1, b2, b3⟩, h4, h5⟩ := h
  exact ⟨h1.up hb, ⟨n, a1, a2, a3, fun k hk => (a4 k hk).up hb⟩, ⟨b1, b2, fun q => (b3 q).up hb⟩, h4, h5⟩
/-! what acted does -/
theorem L10_spec : ∀ (n : Nat) (x : Int32) (M : ARR) (k : Nat), x = nI k → k ≤ 165 → 166 ≤ k + n → ∀ i j : Nat, L_M_acted_10 n x M i j = if i = 3 ∧ k ≤ j ∧ j < 165 then M 3 (j + 55) else M i j
  | 0, x, M, k, hx, hk, hn, i, j => by exfalso; omega
  | n + 1, x, M, k, hx, hk, hn, i, j => by
    subst hx
    simp only [L_M_acted_10]
    by_cases h : 165 ≤ k
    · rw [if_pos (show (165 : Int32) ≤ nI k from nI_le (a := 165) h (by omega)), if_neg (by omega)]
    · rw [if_neg (show ¬ (165 : Int32) ≤ nI k from fun q => h ((nI_leI (a := 165) (by omega) (by omega)).mp q))]
      rw [L10_spec n _ _ (k + 1) (nI_1 k) (by omega) (by omega) i j]
      rw [nI_clamp (by omega), show nI k + (55 : Int32) = nI (k + 55) from nI_add k 55, nI_clamp (by omega)]
      by_cases q : i = 3
      · subst q
        by_cases q2 : k + 1 ≤ j ∧ j < 165
        · rw [if_pos ⟨rfl, q2⟩, if_pos ⟨rfl, by omega, q2.2⟩, sA_ne _ _ _ _ (by omega)]
        · rw [if_neg (fun z => q2 z.2)]
          by_cases q3 : j = k
          · subst q3
            rw [if_pos ⟨rfl, Nat.le_refl _, by omega⟩, sA_e]
          · rw [if_neg (by omega), sA_ne _ _ _ _ q3]
      · rw [if_neg (fun z => q z.1), if_neg (fun z => q z.1), sA_o _ _ _ _ q]
theorem L50_spec {g : Nat} (h3 : g ≤ 3) : ∀ (n : Nat) (x : Int32) (M : ARR) (k : Nat), x = nI k → k ≤ 55 → 56 ≤ k + n → M 7 4 = nI g → ∀ i j : Nat, L_M_acted_50 n x M i j = if i = 3 ∧ 55 * g + k ≤ j ∧ j < 55 * g + 55 then M 1 (j - 55 * g) else M i j
  | 0, x, M, k, hx, hk, hn, hM, i, j => by exfalso; omega
  | n + 1, x, M, k, hx, hk, hn, hM, i, j => by
    subst hx
    simp only [L_M_acted_50]
    by_cases h : 55 ≤ k
    · rw [if_pos (show (55 : Int32) ≤ nI k from nI_le (a := 55) h (by omega)), if_neg (by omega)]
    · rw [if_neg (show ¬ (55 : Int32) ≤ nI k from fun q => h ((nI_leI (a := 55) (by omega) (by omega)).mp q))]
      have e1 : (nI k).toNatClampNeg = k := nI_clamp (by omega)
      have e2 : (((55 : Int32) * (M 7 4)) + nI k).toNatClampNeg = 55 * g + k := by
        rw [hM, show (55 : Int32) * nI g = nI (55 * g) from (Int32.ofNat_mul 55 g).symm, nI_add, nI_clamp (by omega)]
      rw [L50_spec h3 n _ _ (k + 1) (nI_1 k) (by omega) (by omega) (by rw [sA_o _ _ _ _ (by decide)]; exact hM) i j]
      rw [e1, e2]
      by_cases q : i = 3
      · subst q
        by_cases q2 : 55 * g + (k + 1) ≤ j ∧ j < 55 * g + 55
        · rw [if_pos ⟨rfl, q2⟩, if_pos ⟨rfl, by omega, q2.2⟩, sA_o _ _ _ _ (by decide)]
        · rw [if_neg (fun z => q2 z.2)]
          by_cases q3 : j = 55 * g + k
          · subst q3
            rw [if_pos ⟨rfl, Nat.le_refl _, by omega⟩, sA_e, Nat.add_sub_cancel_left]
          · rw [if_neg (by omega), sA_ne _ _ _ _ q3]
      · rw [if_neg (fun z => q z.1), if_neg (fun z => q z.1), sA_o _ _ _ _ q]
theorem acted_spec {M : ARR} {h : Nat} (h4 : h ≤ 4) (hh : M 7 4 = nI h) (v : Int32) : (F_M_acted M v).1 = v ∧ (F_M_acted M v).2 7 4 = nI (min h 3 + 1) ∧ (∀ i j : Nat, i ≠ 3 → (i ≠ 7 ∨ j ≠ 4) → (F_M_acted M v).2 i j = M i j) ∧ (∀ k j : Nat, k < min h 3 → j < 55 → (F_M_acted M v).2 3 (55 * k + j) = M 3 (55 * (if h = 4 then k + 1 else k) + j)) ∧ (∀ j : Nat, j < 55 → (F_M_acted M v).2 3 (55 * min h 3 + j) = M 1 j) := by
  obtain ⟨Y, eY⟩ : ∃ Y : ARR, Y = L_M_acted_10 166 (0 : Int32) M := ⟨_, rfl⟩
  obtain ⟨J, eJ⟩ : ∃ J : ARR, J = (if (M 7 4) = (4 : Int32) then sA Y 7 4 ((Y 7 4) - (1 : Int32)) else M) := ⟨_, rfl⟩
  obtain ⟨X, eX⟩ : ∃ X : ARR, X = L_M_acted_50 56 (0 : Int32) J := ⟨_, rfl⟩
  have eF : F_M_acted M v = (v, sA X 7 4 ((X 7 4) + (1 : Int32))) := by
    unfold F_M_acted
    rw [eX, eJ, eY]
  have e1 : ∀ i j : Nat, Y i j = if i = 3 ∧ 0 ≤ j ∧ j < 165 then M 3 (j + 55) else M i j := by
    rw [eY]; exact L10_spec 166 0 M 0 nI_0.symm (by omega) (by omega)
  have hJ : J 7 4 = nI (min h 3) ∧ (∀ i j : Nat, i ≠ 3 → (i ≠ 7 ∨ j ≠ 4) → J i j = M i j) ∧ ∀ j : Nat, j < 165 → J 3 j = if h = 4 then M 3 (j + 55) else M 3 j := by
    by_cases c : h = 4
    · subst c
      rw [if_pos (show M 7 4 = (4 : Int32) from hh)] at eJ
      rw [eJ]
      refine ⟨?_, fun i j h3 h7 => ?_, fun j hj => ?_⟩
      · rw [sA_e, e1 7 4, if_neg (by omega), hh]; rfl
      · by_cases i7 : i = 7
        · subst i7
          rw [sA_ne _ _ _ _ (by omega), e1, if_neg (by omega)]
        · rw [sA_o _ _ _ _ i7, e1, if_neg (by omega)]
      · rw [sA_o _ _ _ _ (by decide), e1, if_pos ⟨rfl, by omega, hj⟩, if_pos rfl]
    · have c2 : ¬ M 7 4 = (4 : Int32) := by
        rw [hh]; exact fun q => c ((nI_eq (a := h) (b := 4) (by omega) (by omega)).mp q)
      rw [if_neg c2] at eJ
      rw [eJ]
      exact ⟨by rw [hh, Nat.min_eq_left (by omega)], fun _ _ _ _ => rfl, fun j _ => by rw [if_neg c]⟩
  obtain ⟨j1, j2, j3⟩ := hJ
  have hm : min h 3 ≤ 3 := Nat.min_le_right _ _
  have e2 : ∀ i j : Nat, X i j = if i = 3 ∧ 55 * min h 3 + 0 ≤ j ∧ j < 55 * min h 3 + 55 then J 1 (j - 55 * min h 3) else J i j := by
    rw [eX]; exact L50_spec (g := min h 3) hm 56 0 J 0 nI_0.symm (by omega) (by omega) j1
  clear eX eY
  rw [eF]
  dsimp only
  refine ⟨rfl, ?_, fun i j h3 h7 => ?_, fun k j hk hj => ?_, fun j hj => ?_⟩
  · rw [sA_e, e2 7 4, if_neg (by omega), j1, nI_1]
  · by_cases i7 : i = 7
    · subst i7
      rw [sA_ne _ _ _ _ (by omega), e2, if_neg (by omega), j2 7 j h3 h7]
    · rw [sA_o _ _ _ _ i7, e2, if_neg (by omega), j2 i j h3 h7]
  · rw [sA_o _ _ _ _ (by decide), e2, if_neg (by omega), j3 _ (by omega)]
    by_cases c : h = 4
    · rw [if_pos c, if_pos c]; congr 1; omega
    · rw [if_neg c, if_neg c]
  · rw [sA_o _ _ _ _ (by decide), e2, if_pos ⟨rfl, by omega, by omega⟩, Nat.add_sub_cancel_left]
    exact j2 1 j (by decide) (Or.inl (by decide))
/-! what recordState does -/
theorem rec_spec {S : SLS} {h : Nat} (h4 : h ≤ 4) (hh : S.2.2 5 = nI h) : (F_S_recordState S).2.2 5 = nI (min h 3 + 1) ∧ (∀ k, k < min h 3 → (F_S_recordState S).1 (3 + k) = S.1 (3 + (if h = 4 then k + 1 else k))) ∧ (∃ C' : CS, (F_S_recordState S).1 (3 + min h 3) = cpC C' (S.1 0)) ∧ ∀ i, i < 7 → ∃ i', i' < 7 ∧ ((F_S_recordState S).1 i).1 4 9 = (S.1 i').1 4 9 := by
  obtain ⟨J, eJ⟩ : ∃ J : SLS, J = (if (S.2.2 5) = (4 : Int32) then F_S_dropOldestState S else S) := ⟨_, rfl⟩
  have eF : F_S_recordState S = sV (sSC J (3 + (J.2.2 5).toNatClampNeg) (cpC (J.1 (3 + (J.2.2 5).toNatClampNeg)) (J.1 0))) 5 (((sSC J (3 + (J.2.2 5).toNatClampNeg) (cpC (J.1 (3 + (J.2.2 5).toNatClampNeg)) (J.1 0))).2.2 5) + (1 : Int32)) := by rw [eJ]; rfl
  have hm : min h 3 ≤ 3 := Nat.min_le_right _ _
  have hJ : J.2.2 5 = nI (min h 3) ∧ J.1 0 = S.1 0 ∧ (∀ k, k < min h 3 → J.1 (3 + k) = S.1 (3 + (if h = 4 then k + 1 else k))) ∧ ∀ i, i < 7 → ∃ i', i' < 7 ∧ J.1 i = S.1 i' := by
    by_cases c : h = 4
    · subst c
      rw [if_pos (show S.2.2 5 = (4 : Int32) from hh)] at eJ
      rw [eJ]
      refine ⟨drop_5 S, drop_1 S (by omega), fun k hk => ?_, fun i hi => ?_⟩
      · match k, hk with
        | 0, _ => rfl
        | 1, _ => rfl
        | 2, _ => rfl
      · match i, hi with
        | 0, _ => exact ⟨0, by omega, rfl⟩
        | 1, _ => exact ⟨1, by omega, rfl⟩
        | 2, _ => exact ⟨2, by omega, rfl⟩
        | 3, _ => exact ⟨4, by omega, rfl⟩
        | 4, _ => exact ⟨5, by omega, rfl⟩
        | 5, _ => exact ⟨6, by omega, rfl⟩
        | 6, _ => exact ⟨3, by omega, rfl⟩
    · have c2 : ¬ S.2.2 5 = (4 : Int32) := by
        rw [hh]; exact fun q => c ((nI_eq (a := h) (b := 4) (by omega) (by omega)).mp q)
      rw [if_neg c2] at eJ
      rw [eJ]
      exact ⟨by rw [hh, Nat.min_eq_left (by omega)], rfl, fun k _ => by rw [if_neg c], fun i hi => ⟨i, hi, rfl⟩⟩
  obtain ⟨j1, j2, j3, j4⟩ := hJ
  have ek : (J.2.2 5).toNatClampNeg = min h 3 := by rw [j1]; exact nI_clamp (by omega)
  rw [ek] at eF
  rw [eF]
  refine ⟨?_, fun k hk => ?_, ⟨J.1 (3 + min h 3), ?_⟩, fun i hi => ?_⟩
  · rw [sV_e, sSC_2, j1, nI_1]
  · rw [sV_1, sSC_ne _ _ (by omega)]; exact j3 k hk
  · rw [sV_1, sSC_e, j2]
  · rw [sV_1]
    by_cases q : i = 3 + min h 3
    · subst q
      rw [sSC_e, cpC_4 _ _ (by decide), j2]
      exact ⟨0, by omega, rfl⟩
    · rw [sSC_ne _ _ q]
      obtain ⟨i', h1, h2⟩ := j4 i hi
      exact ⟨i', h1, by rw [h2]⟩
/-! an act: the state is kept in both, then the circuit goes on -/
theorem sim_act {B B' : Nat} {S : SLS} {M M2 : ARR} (h : RS B S M) (hB : B ≤ B') (r1 : ∀ j, j < 55 → M2 1 j = M 0 j) (o : ∀ i, i ≠ 0 → i ≠ 1 → M2 i = M i) {C' : CS} (hC : CR B' C' (M2 0)) (v : Int32) : (F_M_acted M2 v).1 = v ∧ RS B' (sSC (F_S_recordState S) 0 C') (F_M_acted M2 v).2 := by
  obtain ⟨n, n4, a2, a3, a4⟩ := h.h
  obtain ⟨e1, e2, e3, e4, e5⟩ := acted_spec (M := M2) n4 (by rw [o 7 (by decide) (by decide)]; exact a3) v
  obtain ⟨f1, f2, ⟨Ck, f3⟩, f4⟩ := rec_spec n4 a2
  have hm : min n 3 ≤ 3 := Nat.min_le_right _ _
  have hrow : ∀ i, i ≠ 3 → i ≠ 7 → (F_M_acted M2 v).2 i = M2 i := fun i h3 h7 => funext fun j => e3 i j h3 (Or.inl h7)
  refine ⟨e1, ?_, ⟨min n 3 + 1, by omega, ?_, e2, fun k hk => ?_⟩, ⟨?_, ?_, fun q => ?_⟩, ?_, fun i hi => ?_⟩
  · rw [sSC_e, hrow 0 (by decide) (by decide)]; exact hC
  · rw [sSC_2]; exact f1
  · rw [sSC_ne _ _ (by omega)]
    by_cases q : k < min n 3
    · rw [f2 k q]
      have hk2 : (if n = 4 then k + 1 else k) < n := by split <;> omega
      refine ((a4 _ hk2).up hB).cg (fun j hj => ?_)
      rw [e4 k j q hj, o 3 (by decide) (by decide)]
    · rw [show k = min n 3 by omega, f3]
      exact ((h.c.up hB).cp).cg (fun j hj => by rw [e5 j hj, r1 j hj])
  · rw [sSC_2, rec_6, e3 7 6 (by decide) (Or.inr (by decide)), o 7 (by decide) (by decide)]; exact h.k.1
  · rw [sSC_2, rec_6]; exact h.k.2.1
  · rw [sSC_2, rec_6] at q
    rw [sSC_ne _ _ (by decide), rec_1 S (by omega), hrow 4 (by decide) (by decide), o 4 (by decide) (by decide)]
    exact (h.k.2.2 q).up hB
  · obtain ⟨t, t1, t2, t3, t4⟩ := h.t
    refine ⟨t, t1, ?_, ?_, fun k hk => ?_⟩
    · rw [sSC_2, rec_T]; exact t2
    · rw [e3 7 8 (by decide) (Or.inr (by decide)), o 7 (by decide) (by decide)]; exact t3
    · rw [sSC_2, rec_T, hrow 5 (by decide) (by decide), o 5 (by decide) (by decide)]; exact t4 k hk
  · by_cases q : i = 0
    · subst q
      rw [sSC_e]; exact hC.ok.g
    · rw [sSC_ne _ _ q]
      obtain ⟨i', h1, h2⟩ := f4 i hi
      rw [h2]; exact h.g i' h1
