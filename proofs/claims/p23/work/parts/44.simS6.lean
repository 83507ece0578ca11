/-! the two parsers -/
def TX (t i m : Nat) (T M : ARR) : Prop := t ≤ 60 ∧ i ≤ t ∧ 1 ≤ m ∧ m ≤ 16 ∧ T 2 1 = nI t ∧ M 7 8 = nI t ∧ M 7 9 = nI i ∧ T 2 3 = nI m ∧ (∀ k, k < t → T 0 k = M 5 k ∧ bn 0 65535 (M 5 k)) ∧ (∀ k, k < m - 1 → T 1 k = M 6 k ∧ bn 0 255 (M 6 k))
theorem here_eq {M : ARR} {t i : Nat} (t60 : t ≤ 60) (ht : M 7 8 = nI t) (hi : M 7 9 = nI i) (hit : i ≤ t) {u : Nat} (hu : i < t → M 5 i = nI u) (ub : u < 65536) (lo hi' : Nat) (hb : lo < 2 ^ 31 ∧ hi' < 2 ^ 31) : F_M_isHere M (nI lo) (nI hi') = if i < t ∧ lo ≤ u ∧ u ≤ hi' then 1 else 0 := by
  unfold F_M_isHere
  dsimp only
  rw [ht, hi]
  by_cases c : i < t
  · have q : F_M_in (lN u) (lN lo) (lN hi') = if lo ≤ u ∧ u ≤ hi' then 1 else 0 := by
      rw [in_eq]
      by_cases d : lo ≤ u ∧ u ≤ hi'
      · rw [if_pos d, if_pos ⟨(lN_le hb.1 (by omega)).mpr d.1, (lN_le (by omega) hb.2).mpr d.2⟩]
      · rw [if_neg d, if_neg (fun z => d ⟨(lN_le hb.1 (by omega)).mp z.1, (lN_le (by omega) hb.2).mp z.2⟩)]
    rw [if_neg (nI_ge c (by omega)), nI_clamp (show i < 2 ^ 31 by omega), hu c, nI_l (show u < 2 ^ 31 by omega), nI_l hb.1, nI_l hb.2, q]
    by_cases d : lo ≤ u ∧ u ≤ hi'
    · rw [if_pos d, if_neg (show ¬ (1 : Int32) = 0 by decide), if_pos ⟨c, d⟩]
    · rw [if_neg d, if_pos (show (0 : Int32) = 0 from rfl), if_neg (fun z => d z.2)]
  · rw [if_pos (nI_le (by omega) (by omega)), if_neg (fun z => c z.1)]
theorem takes_eq {M : ARR} {t i : Nat} (t60 : t ≤ 60) (ht : M 7 8 = nI t) (hi : M 7 9 = nI i) (hit : i ≤ t) {u : Nat} (hu : i < t → M 5 i = nI u) (ub : u < 65536) (a : Nat) (hb : a < 2 ^ 31) : F_M_takes M (nI a) = if i < t ∧ u = a then (1, sA M 7 9 (nI (i + 1))) else (0, sA M 7 9 (nI i)) := by
  unfold F_M_takes
  dsimp only
  rw [here_eq t60 ht hi hit hu ub a a ⟨hb, hb⟩, hi]
  by_cases c : i < t ∧ u = a
  · rw [if_pos c, if_pos ⟨c.1, by omega, by omega⟩, if_neg (show ¬ (1 : Int32) = 0 by decide), nI_1]
  · rw [if_neg c, if_neg (fun z => c ⟨z.1, by omega⟩), if_pos rfl, Int32.add_zero]
theorem u_of {M : ARR} {t i : Nat} (h : ∀ k, k < t → bn 0 65535 (M 5 k)) : ∃ u : Nat, u < 65536 ∧ (i < t → M 5 i = nI u) := by
  by_cases c : i < t
  · obtain ⟨u, _, h2, h3⟩ := h i c
    exact ⟨u, by omega, fun _ => h3⟩
  · exact ⟨0, by omega, fun z => absurd z c⟩
theorem cl_end {t m : Nat} {T M : ARR} (h : TX t t m T M) (n : Nat) (x : Int32) : L_T_read_16 (n + 1) x (nI t) T = (if x = (-1 : Int32) then nI t else (-1 : Int32), T) := by
  obtain ⟨t60, it, m1, m16, hT, hM, hs, hm, hc, hk⟩ := h
  simp only [L_T_read_16]
  rw [hT, if_pos (nI_le (Nat.le_refl t) (by omega))]
theorem cl_step {t i m : Nat} {T M : ARR} (h : TX t i m T M) (hi : i < t) {u : Nat} (hu : M 5 i = nI u) (ub : u < 65536) (n : Nat) (x : Int32) : L_T_read_16 (n + 1) x (nI i) T =
    if u = 44 then (if x = (-1 : Int32) then (nI i, T) else if 16 ≤ m then (nI i, T) else L_T_read_16 n (-1) (nI (i + 1)) (sA (sA T 1 m 0) 2 3 (nI (m + 1))))
    else if u = 45 then (if x = (-1 : Int32) then L_T_read_16 n 8 (nI (i + 1)) T else (nI i, T))
    else if u < 48 then (nI i, T) else if 55 < u then (nI i, T) else if nI (u - 48) ≤ x then (nI i, T)
    else L_T_read_16 n (nI (u - 48)) (nI (i + 1)) (sA T 1 (m - 1) ((T 1 (m - 1)) ||| ((1 : Int32) <<< (nI (u - 48) &&& 31)))) := by
  obtain ⟨t60, it, m1, m16, hT, hM, hs, hm, hc, hk⟩ := h
  have e0 : T 0 i = nI u := (hc i hi).1.trans hu
  have e44 : (nI u = (44 : Int32)) = (u = 44) := propext (nI_eq (a := u) (b := 44) (by omega) (by omega))
  have e45 : (nI u = (45 : Int32)) = (u = 45) := propext (nI_eq (a := u) (b := 45) (by omega) (by omega))
  have e48 : (nI u < (48 : Int32)) = (u < 48) := propext (nI_ltI (a := u) (b := 48) (by omega) (by omega))
  have e55 : ((55 : Int32) < nI u) = (55 < u) := propext (nI_ltI (a := 55) (b := u) (by omega) (by omega))
  have e16 : ((16 : Int32) ≤ nI m) = (16 ≤ m) := propext (nI_leI (a := 16) (b := m) (by omega) (by omega))
  have em1 : nI m - (1 : Int32) = nI (m - 1) := pk_sub (a := m) (b := 1) m1
  simp only [L_T_read_16]
  rw [hT, if_neg (nI_ge hi (by omega)), nI_clamp (show i < 2 ^ 31 by omega), e0, hm, nI_clamp (show m < 2 ^ 31 by omega), em1, nI_clamp (show m - 1 < 2 ^ 31 by omega), nI_1 i, sA_o _ _ _ _ (show (2 : Nat) ≠ 1 by decide), hm, nI_1 m]
  simp only [e44, e45, e48, e55, e16]
  by_cases c44 : u = 44
  · subst c44
    by_cases cx : x = (-1 : Int32)
    · simp [cx]
    · by_cases cm : 16 ≤ m
      · simp [cx, cm]
      · simp [cx, cm]
  · by_cases c45 : u = 45
    · subst c45
      by_cases cx : x = (-1 : Int32)
      · simp [cx]
      · simp [cx]
    · by_cases c48 : u < 48
      · simp [c44, c45, c48]
      · have ed : nI u - (48 : Int32) = nI (u - 48) := pk_sub (a := u) (b := 48) (by omega)
        rw [ed]
        simp [c44, c45, c48]
def RB (n : Nat) (M : ARR) : Int32 × ARR :=
  L_M_fault_12 n (if (16 : Int32) ≤ (M 7 11) then ((0 : Int32), M) else if (F_M_takes M (44 : Int32)).1 = (0 : Int32) then ((0 : Int32), (F_M_takes M (44 : Int32)).2) else ((1 : Int32), (F_M_takes M (44 : Int32)).2)).1 (if (16 : Int32) ≤ (M 7 11) then ((0 : Int32), M) else if (F_M_takes M (44 : Int32)).1 = (0 : Int32) then ((0 : Int32), (F_M_takes M (44 : Int32)).2) else ((1 : Int32), (F_M_takes M (44 : Int32)).2)).2
theorem fault_step (n : Nat) (M : ARR) : L_M_fault_12 (n + 1) 1 M = if (F_M_readsSet M).1 = (0 : Int32) then (((F_M_readsSet M).2 7 9), (F_M_readsSet M).2) else RB n (F_M_readsSet M).2 := by
  simp only [L_M_fault_12, RB]
  rw [if_neg (show ¬ (1 : Int32) = 0 by decide)]
theorem fault_done (n : Nat) (M : ARR) : L_M_fault_12 (n + 1) 0 M = (if (M 7 9) = (M 7 8) then (-5 : Int32) else (M 7 9), M) := by
  simp only [L_M_fault_12]
  rw [if_pos trivial]
def Out (p q : Int32 × ARR) : Prop := (∃ e : Nat, e ≤ 60 ∧ p.1 = nI e ∧ q.1 = nI e) ∨ (p.1 = -1 ∧ q.1 = -5 ∧ ∃ m : Nat, 1 ≤ m ∧ m ≤ 16 ∧ p.2 2 3 = nI m ∧ q.2 7 11 = nI m ∧ ∀ k, k < m → p.2 1 k = q.2 6 k ∧ bn 0 255 (q.2 6 k))
def PA (t i : Nat) : Prop := ∀ (n1 n2 m : Nat) (T M : ARR), TX t i m T M → M 7 11 = nI (m - 1) → T 1 (m - 1) = 0 → t + 1 ≤ i + n1 → 18 ≤ m + n2 → Out (L_T_read_16 n1 (-1) (nI i) T) (L_M_fault_12 n2 1 M)
theorem TX_spot {t i i' m : Nat} {T M : ARR} (h : TX t i m T M) (hi : i' ≤ t) : TX t i' m T (sA M 7 9 (nI i')) := by
  obtain ⟨t60, it, m1, m16, hT, hM, hs, hm, hc, hk⟩ := h
  refine ⟨t60, hi, m1, m16, hT, ?_, sA_e _ _ _ _, hm, ?_, ?_⟩
  · rw [sA_ne _ _ _ _ (by decide)]; exact hM
  · rw [sA_o _ _ _ _ (by decide)]; exact hc
  · rw [sA_o _ _ _ _ (by decide)]; exact hk
theorem pB {t i m : Nat} {T M : ARR} (hA : i < t → PA t (i + 1)) (h : TX t i m T M) (hr : M 7 11 = nI m) (hset : T 1 (m - 1) = M 6 (m - 1) ∧ bn 0 255 (M 6 (m - 1))) {x : Int32} (hx : ¬ x = (-1 : Int32)) (hd : ∀ u : Nat, i < t → M 5 i = nI u → 48 ≤ u → u ≤ 55 → nI (u - 48) ≤ x) {n1 n2 : Nat} (f1 : t + 1 ≤ i + n1) (f2 : 18 ≤ m + (n2 + 1)) : Out (L_T_read_16 n1 x (nI i) T) (RB n2 M) := by
  have hh := h
  obtain ⟨t60, it, m1, m16, hT, hM, hs, hm, hc, hk⟩ := h
  obtain ⟨u, ub, hu⟩ := u_of (M := M) (t := t) (i := i) (fun k hk => (hc k hk).2)
  obtain ⟨a1, rfl⟩ : ∃ a, n1 = a + 1 := ⟨n1 - 1, by omega⟩
  obtain ⟨a2, rfl⟩ : ∃ a, n2 = a + 1 := ⟨n2 - 1, by omega⟩
  have hall : ∀ k, k < m → T 1 k = M 6 k ∧ bn 0 255 (M 6 k) := fun k hk2 => by
    by_cases z : k = m - 1
    · rw [z]; exact hset
    · exact hk k (by omega)
  have et := takes_eq t60 hM hs it hu ub 44 (by omega)
  have et : F_M_takes M (44 : Int32) = if i < t ∧ u = 44 then (1, sA M 7 9 (nI (i + 1))) else (0, sA M 7 9 (nI i)) := et
  have e16 : ((16 : Int32) ≤ nI m) = (16 ≤ m) := propext (nI_leI (a := 16) (b := m) (by omega) (by omega))
  by_cases new : i < t ∧ u = 44 ∧ m < 16
  · obtain ⟨c1, c2, c3⟩ := new
    have eR : RB (a2 + 1) M = L_M_fault_12 (a2 + 1) 1 (sA M 7 9 (nI (i + 1))) := by
      unfold RB
      rw [et, if_pos (c := i < t ∧ u = 44) ⟨c1, c2⟩, hr]
      simp only [e16, if_neg (show ¬ 16 ≤ m by omega), if_neg (show ¬ (1 : Int32) = 0 by decide)]
    rw [eR, cl_step hh c1 (hu c1) ub, if_pos c2, if_neg hx, if_neg (by omega)]
    have hS := TX_spot hh (i' := i + 1) (by omega)
    obtain ⟨-, it', -, -, hT', hM', hs', hm', hc', hk'⟩ := hS
    refine hA c1 a1 (a2 + 1) (m + 1) _ _ ⟨t60, it', by omega, by omega, ?_, hM', hs', sA_e _ _ _ _, ?_, ?_⟩ ?_ ?_ (by omega) (by omega)
    · rw [sA_ne _ _ _ _ (by decide), sA_o _ _ _ _ (by decide)]; exact hT
    · intro k hk2
      rw [sA_o _ _ _ _ (show (0 : Nat) ≠ 2 by decide), sA_o _ _ _ _ (show (0 : Nat) ≠ 1 by decide)]
      exact hc' k hk2
    · intro k hk2
      rw [sA_o _ _ _ _ (show (1 : Nat) ≠ 2 by decide), sA_ne _ _ _ _ (show k ≠ m by omega), sA_o _ _ _ _ (show (6 : Nat) ≠ 7 by decide)]
      exact hall k (by omega)
    · rw [sA_ne _ _ _ _ (by decide)]; exact hr
    · rw [sA_o _ _ _ _ (show (1 : Nat) ≠ 2 by decide), Nat.add_sub_cancel, sA_e]
  · have eR : ∃ M' : ARR, RB (a2 + 1) M = (if i = t then (-5 : Int32) else nI i, M') ∧ M' 7 11 = nI m ∧ M' 6 = M 6 := by
      have fin : ∀ M' : ARR, M' 7 9 = nI i → M' 7 8 = nI t → L_M_fault_12 (a2 + 1) 0 M' = (if i = t then (-5 : Int32) else nI i, M') := fun M' g1 g2 => by
        rw [fault_done, g1, g2]
        by_cases z : i = t
        · rw [if_pos z, if_pos (by rw [z])]
        · rw [if_neg z, if_neg (fun q => z ((nI_eq (by omega) (by omega)).mp q))]
      by_cases c16 : 16 ≤ m
      · refine ⟨M, ?_, hr, rfl⟩
        unfold RB
        rw [hr]
        simp only [e16, if_pos c16]
        exact fin M hs hM
      · refine ⟨sA M 7 9 (nI i), ?_, by rw [sA_ne _ _ _ _ (by decide)]; exact hr, sA_o _ _ _ _ (by decide)⟩
        unfold RB
        rw [et, if_neg (show ¬ (i < t ∧ u = 44) from fun z => new ⟨z.1, z.2, by omega⟩), hr]
        simp only [e16, if_neg c16, if_true]
        exact fin _ (sA_e _ _ _ _) (by rw [sA_ne _ _ _ _ (by decide)]; exact hM)
    obtain ⟨M', eR, r1, r2⟩ := eR
    rw [eR]
    by_cases z : i = t
    · subst z
      rw [cl_end hh, if_neg hx, if_pos rfl]
      refine Or.inr ⟨rfl, rfl, m, m1, m16, hm, r1, fun k hk2 => ?_⟩
      show T 1 k = M' 6 k ∧ bn 0 255 (M' 6 k)
      rw [r2]; exact hall k hk2
    · have c1 : i < t := by omega
      have eC : L_T_read_16 (a1 + 1) x (nI i) T = (nI i, T) := by
        rw [cl_step hh c1 (hu c1) ub]
        by_cases d44 : u = 44
        · rw [if_pos d44, if_neg hx, if_pos (by
            rcases Nat.lt_or_ge m 16 with q | q
            · exact absurd ⟨c1, d44, q⟩ new
            · exact q)]
        rw [if_neg d44]
        by_cases d45 : u = 45
        · rw [if_pos d45, if_neg hx]
        rw [if_neg d45]
        by_cases d48 : u < 48
        · rw [if_pos d48]
        rw [if_neg d48]
        by_cases d55 : 55 < u
        · rw [if_pos d55]
        rw [if_neg d55, if_pos (hd u c1 (hu c1) (by omega) (by omega))]
      rw [eC, if_neg z]
      exact Or.inl ⟨i, by omega, rfl, rfl⟩
theorem orb8 : ∀ r : Nat, r < 256 → ∀ k : Nat, k < 8 → (nI r ||| ((1 : Int32) <<< (nI k &&& 31))).toNatClampNeg < 256 ∧ nI r ||| ((1 : Int32) <<< (nI k &&& 31)) = nI (nI r ||| ((1 : Int32) <<< (nI k &&& 31))).toNatClampNeg := by decide +kernel
theorem or_bn {b : Int32} (hb : bn 0 255 b) {k : Nat} (hk : k < 8) : bn 0 255 (b ||| ((1 : Int32) <<< (nI k &&& 31))) := by
  obtain ⟨r, _, h2, rfl⟩ := hb
  obtain ⟨g1, g2⟩ := orb8 r (by omega) k hk
  exact ⟨_, by omega, by omega, g2⟩
def STO (q : Int32 × ARR) : ARR := sA (sA q.2 6 ((q.2 7 11).toNatClampNeg) q.1) 7 11 ((sA q.2 6 ((q.2 7 11).toNatClampNeg) q.1 7 11) + (1 : Int32))
theorem STO_eq {M : ARR} {m : Nat} (m1 : 1 ≤ m) (m16 : m ≤ 16) (hr : M 7 11 = nI (m - 1)) (b : Int32) : STO (b, M) = sA (sA M 6 (m - 1) b) 7 11 (nI m) := by
  unfold STO
  dsimp only
  rw [hr, nI_clamp (show m - 1 < 2 ^ 31 by omega), sA_o _ _ _ _ (show (7 : Nat) ≠ 6 by decide), hr, nI_1, Nat.sub_add_cancel m1]
theorem TX_sto {t i m : Nat} {T M : ARR} (h : TX t i m T M) (b v : Int32) : TX t i m T (sA (sA M 6 (m - 1) b) 7 11 v) := by
  obtain ⟨t60, it, m1, m16, hT, hM, hs, hm, hc, hk⟩ := h
  refine ⟨t60, it, m1, m16, hT, ?_, ?_, hm, ?_, ?_⟩
  · rw [sA_ne _ _ _ _ (by decide), sA_o _ _ _ _ (by decide)]; exact hM
  · rw [sA_ne _ _ _ _ (by decide), sA_o _ _ _ _ (by decide)]; exact hs
  · rw [sA_o _ _ _ _ (show (5 : Nat) ≠ 7 by decide), sA_o _ _ _ _ (show (5 : Nat) ≠ 6 by decide)]; exact hc
  · intro k hk2
    rw [sA_o _ _ _ _ (show (6 : Nat) ≠ 7 by decide), sA_ne _ _ _ _ (show k ≠ m - 1 by omega)]; exact hk k hk2
theorem pD {t m n2 : Nat} (f2 : 18 ≤ m + (n2 + 1)) : ∀ (n1 nf i d : Nat) (b : Int32) (T M : ARR), (∀ i', i < i' → i' ≤ t → PA t i') → TX t i m T M → M 7 11 = nI (m - 1) → T 1 (m - 1) = b → bn 0 255 b → d ≤ 7 → t + 1 ≤ i + n1 → t + 1 ≤ i + nf → Out (L_T_read_16 n1 (nI d) (nI i) T) (RB n2 (STO (L_M_readsSet_27 nf b (nI (48 + d)) M)))
  | 0, nf, i, d, b, T, M, _, h, _, _, _, _, f1, _ => by
    obtain ⟨t60, it, _⟩ := h
    omega
  | n1 + 1, 0, i, d, b, T, M, _, h, _, _, _, _, _, f3 => by
    obtain ⟨t60, it, _⟩ := h
    omega
  | n1 + 1, nf + 1, i, d, b, T, M, hA, h, hr, hb, hbb, hd, f1, f3 => by
    have hh := h
    obtain ⟨t60, it, m1, m16, hT, hM, hs, hm, hc, hk⟩ := h
    obtain ⟨u, ub, hu⟩ := u_of (M := M) (t := t) (i := i) (fun k hk => (hc k hk).2)
    have eh : F_M_isHere M (nI (48 + d) + (1 : Int32)) (55 : Int32) = if i < t ∧ 48 + d + 1 ≤ u ∧ u ≤ 55 then 1 else 0 := by
      rw [nI_1]; exact here_eq t60 hM hs it hu ub (48 + d + 1) 55 (by omega)
    simp only [L_M_readsSet_27]
    rw [eh]
    by_cases c : i < t ∧ 48 + d + 1 ≤ u ∧ u ≤ 55
    · obtain ⟨c1, c2, c3⟩ := c
      rw [if_pos (c := i < t ∧ 48 + d + 1 ≤ u ∧ u ≤ 55) ⟨c1, c2, c3⟩, if_neg (show ¬ (1 : Int32) = 0 by decide), hs, nI_clamp (show i < 2 ^ 31 by omega), hu c1, nI_1 i, show nI u - (48 : Int32) = nI (u - 48) from pk_sub (a := u) (b := 48) (by omega)]
      rw [cl_step hh c1 (hu c1) ub, if_neg (by omega), if_neg (by omega), if_neg (by omega), if_neg (by omega), if_neg (nI_ge (show d < u - 48 by omega) (by omega)), hb]
      have hS := TX_spot hh (i' := i + 1) (by omega)
      obtain ⟨-, it', -, -, hT', hM', hs', hm', hc', hk'⟩ := hS
      have g := pD f2 n1 nf (i + 1) (u - 48) (b ||| ((1 : Int32) <<< (nI (u - 48) &&& 31))) (sA T 1 (m - 1) (b ||| ((1 : Int32) <<< (nI (u - 48) &&& 31)))) (sA M 7 9 (nI (i + 1))) (fun i' q1 q2 => hA i' (by omega) q2) ⟨t60, it', m1, m16, by rw [sA_o _ _ _ _ (by decide)]; exact hT, hM', hs', by rw [sA_o _ _ _ _ (by decide)]; exact hm, fun k q => by rw [sA_o _ _ _ _ (show (0 : Nat) ≠ 1 by decide)]; exact hc' k q, fun k q => by rw [sA_ne _ _ _ _ (show k ≠ m - 1 by omega)]; exact hk' k q⟩ (by rw [sA_ne _ _ _ _ (by decide)]; exact hr) (sA_e _ _ _ _) (or_bn hbb (by omega)) (by omega) (by omega) (by omega)
      rw [show 48 + (u - 48) = u by omega] at g
      exact g
    · rw [if_neg (c := i < t ∧ 48 + d + 1 ≤ u ∧ u ≤ 55) c, if_pos (show (0 : Int32) = 0 from rfl), STO_eq m1 m16 hr]
      refine pB (fun q => hA (i + 1) (by omega) (by omega)) (TX_sto hh b (nI m)) (sA_e _ _ _ _) ?_ (x := nI d) ?_ ?_ f1 f2
      · rw [sA_o _ _ _ _ (show (6 : Nat) ≠ 7 by decide), sA_e]; exact ⟨hb, hbb⟩
      · intro q
        have : (nI d).toInt = (-1 : Int32).toInt := by rw [q]
        rw [nI_toInt (by omega)] at this
        have e1 : (-1 : Int32).toInt = -1 := by decide
        omega
      · intro w q1 q2 q3 q4
        rw [sA_o _ _ _ _ (show (5 : Nat) ≠ 7 by decide), sA_o _ _ _ _ (show (5 : Nat) ≠ 6 by decide), hu q1] at q2
        have : u = w := (nI_eq (by omega) (by omega)).mp q2
        have hlt : ¬ (48 + d + 1 ≤ u) := fun z => c ⟨q1, z, by omega⟩
        exact nI_le (by omega) (by omega)
theorem L27_succ (n : Nat) (b x : Int32) (M : ARR) : L_M_readsSet_27 (n + 1) b x M = if (F_M_isHere M (x + (1 : Int32)) (55 : Int32)) = (0 : Int32) then (b, M) else L_M_readsSet_27 n (b ||| ((1 : Int32) <<< (((M 5 ((M 7 9).toNatClampNeg)) - (48 : Int32)) &&& 31))) (M 5 ((M 7 9).toNatClampNeg)) (sA M 7 9 ((M 7 9) + (1 : Int32))) := rfl
theorem readsSet_eq (M : ARR) : F_M_readsSet M = (if (F_M_takes M (45 : Int32)).1 = (0 : Int32) then (if (F_M_isHere (F_M_takes M (45 : Int32)).2 (48 : Int32) (55 : Int32)) = (0 : Int32) then ((0 : Int32), (F_M_takes M (45 : Int32)).2) else ((1 : Int32), STO (L_M_readsSet_27 61 (0 : Int32) (47 : Int32) (F_M_takes M (45 : Int32)).2))) else ((1 : Int32), STO ((0 : Int32), (F_M_takes M (45 : Int32)).2))) := rfl
theorem pA_one (t i : Nat) (hA : ∀ i', i < i' → i' ≤ t → PA t i') : PA t i := by
  intro n1 n2 m T M h hr h0 f1 f2
  have hh := h
  obtain ⟨t60, it, m1, m16, hT, hM, hs, hm, hc, hk⟩ := h
  obtain ⟨u, ub, hu⟩ := u_of (M := M) (t := t) (i := i) (fun k hk => (hc k hk).2)
  obtain ⟨a1, rfl⟩ : ∃ a, n1 = a + 1 := ⟨n1 - 1, by omega⟩
  obtain ⟨a2, rfl⟩ : ∃ a, n2 = a + 1 := ⟨n2 - 1, by omega⟩
  have et : F_M_takes M (45 : Int32) = if i < t ∧ u = 45 then (1, sA M 7 9 (nI (i + 1))) else (0, sA M 7 9 (nI i)) := takes_eq t60 hM hs it hu ub 45 (by omega)
  rw [fault_step, readsSet_eq, et]
  by_cases c45 : i < t ∧ u = 45
  · obtain ⟨c1, c2⟩ := c45
    rw [if_pos (c := i < t ∧ u = 45) ⟨c1, c2⟩]
    dsimp only
    rw [if_neg (show ¬ (1 : Int32) = 0 by decide)]
    dsimp only
    rw [if_neg (show ¬ (1 : Int32) = 0 by decide)]
    rw [cl_step hh c1 (hu c1) ub, if_neg (by omega), if_pos c2, if_pos rfl]
    have hS := TX_spot hh (i' := i + 1) (by omega)
    rw [STO_eq m1 m16 (by rw [sA_ne _ _ _ _ (by decide)]; exact hr)]
    refine pB (fun q => hA (i + 1 + 1) (by omega) (by omega)) (TX_sto hS 0 (nI m)) (sA_e _ _ _ _) ?_ (x := 8) (by decide) ?_ (by omega) f2
    · rw [sA_o _ _ _ _ (show (6 : Nat) ≠ 7 by decide), sA_e]; exact ⟨h0, ⟨0, by omega, by omega, nI_0.symm⟩⟩
    · intro w _ _ q3 q4
      exact nI_le (a := w - 48) (b := 8) (by omega) (by omega)
  · rw [if_neg (c := i < t ∧ u = 45) c45, if_pos (show ((0 : Int32), sA M 7 9 (nI i)).1 = 0 from rfl)]
    dsimp only
    have hS := TX_spot hh (i' := i) it
    obtain ⟨-, -, -, -, hT', hM', hs', hm', hc', hk'⟩ := hS
    have hu' : i < t → sA M 7 9 (nI i) 5 i = nI u := fun q => by rw [sA_o _ _ _ _ (by decide)]; exact hu q
    have eh : F_M_isHere (sA M 7 9 (nI i)) (48 : Int32) (55 : Int32) = if i < t ∧ 48 ≤ u ∧ u ≤ 55 then 1 else 0 := here_eq t60 hM' hs' it hu' ub 48 55 (by omega)
    rw [eh]
    by_cases cd : i < t ∧ 48 ≤ u ∧ u ≤ 55
    · obtain ⟨c1, c2, c3⟩ := cd
      rw [if_pos (c := i < t ∧ 48 ≤ u ∧ u ≤ 55) ⟨c1, c2, c3⟩, if_neg (show ¬ (1 : Int32) = 0 by decide)]
      dsimp only
      rw [if_neg (show ¬ (1 : Int32) = 0 by decide)]
      have hneg : ¬ nI (u - 48) ≤ (-1 : Int32) := fun q => by
        have := Int32.le_iff_toInt_le.mp q
        rw [nI_toInt (by omega)] at this
        have e1 : (-1 : Int32).toInt = -1 := by decide
        omega
      rw [cl_step hh c1 (hu c1) ub, if_neg (by omega), if_neg (by omega), if_neg (by omega), if_neg (by omega), if_neg hneg, h0]
      have eL : L_M_readsSet_27 61 (0 : Int32) (47 : Int32) (sA M 7 9 (nI i)) = L_M_readsSet_27 60 ((0 : Int32) ||| ((1 : Int32) <<< (nI (u - 48) &&& 31))) (nI u) (sA (sA M 7 9 (nI i)) 7 9 (nI (i + 1))) := by
        have e1 : F_M_isHere (sA M 7 9 (nI i)) ((47 : Int32) + (1 : Int32)) (55 : Int32) = 1 := by
          rw [show (47 : Int32) + (1 : Int32) = (48 : Int32) by decide, eh, if_pos ⟨c1, c2, c3⟩]
        refine (L27_succ 60 0 47 _).trans ?_
        rw [e1, if_neg (show ¬ (1 : Int32) = 0 by decide), hs', nI_clamp (show i < 2 ^ 31 by omega), hu' c1, nI_1 i, show nI u - (48 : Int32) = nI (u - 48) from pk_sub (a := u) (b := 48) (by omega)]
      rw [eL]
      have hS2 := TX_spot (TX_spot hh (i' := i) it) (i' := i + 1) (by omega)
      obtain ⟨-, it2, -, -, hT2, hM2, hs2, hm2, hc2, hk2⟩ := hS2
      have g := pD (t := t) (m := m) (n2 := a2) (by omega) a1 60 (i + 1) (u - 48) ((0 : Int32) ||| ((1 : Int32) <<< (nI (u - 48) &&& 31))) (sA T 1 (m - 1) ((0 : Int32) ||| ((1 : Int32) <<< (nI (u - 48) &&& 31)))) (sA (sA M 7 9 (nI i)) 7 9 (nI (i + 1))) (fun i' q1 q2 => hA i' (by omega) q2) ⟨t60, it2, m1, m16, by rw [sA_o _ _ _ _ (by decide)]; exact hT, hM2, hs2, by rw [sA_o _ _ _ _ (by decide)]; exact hm, fun k q => by rw [sA_o _ _ _ _ (show (0 : Nat) ≠ 1 by decide)]; exact hc2 k q, fun k q => by rw [sA_ne _ _ _ _ (show k ≠ m - 1 by omega)]; exact hk2 k q⟩ (by rw [sA_ne _ _ _ _ (by decide), sA_ne _ _ _ _ (by decide)]; exact hr) (sA_e _ _ _ _) (or_bn ⟨0, by omega, by omega, nI_0.symm⟩ (by omega)) (by omega) (by omega) (by omega)
      rw [show 48 + (u - 48) = u by omega] at g
      exact g
    · rw [if_neg (c := i < t ∧ 48 ≤ u ∧ u ≤ 55) cd, if_pos rfl, if_pos rfl]
      dsimp only
      rw [hs']
      have eC : L_T_read_16 (a1 + 1) (-1) (nI i) T = (nI i, T) := by
        by_cases z : i = t
        · subst z
          rw [cl_end hh, if_pos rfl]
        · have c1 : i < t := by omega
          rw [cl_step hh c1 (hu c1) ub]
          by_cases d44 : u = 44
          · rw [if_pos d44, if_pos rfl]
          rw [if_neg d44, if_neg (fun q => c45 ⟨c1, q⟩)]
          by_cases d48 : u < 48
          · rw [if_pos d48]
          rw [if_neg d48]
          by_cases d55 : 55 < u
          · rw [if_pos d55]
          exact absurd ⟨c1, by omega, by omega⟩ cd
      rw [eC]
      exact Or.inl ⟨i, by omega, rfl, rfl⟩
theorem pA {t : Nat} : ∀ (g i : Nat), t ≤ i + g → i ≤ t → PA t i := by
  intro g
  induction g with
  | zero =>
    intro i h1 h2
    exact pA_one t i (fun i' q1 q2 => absurd q1 (by omega))
  | succ g ih =>
    intro i h1 h2
    exact pA_one t i (fun i' q1 q2 => ih i' (by omega) q2)
theorem sim_read {t : Nat} (t60 : t ≤ 60) {T M : ARR} (hT : T 2 1 = nI t) (hM : M 7 8 = nI t) (hc : ∀ k, k < t → T 0 k = M 5 k ∧ bn 0 65535 (M 5 k)) : Out (F_T_read T) (F_M_fault M) := by
  have g := pA t 0 (by omega) (Nat.zero_le t) 61 17 1 (sA (sA T 1 0 0) 2 3 1) (sA (sA M 7 9 0) 7 11 0) ⟨t60, Nat.zero_le _, by omega, by omega, by rw [sA_ne _ _ _ _ (by decide), sA_o _ _ _ _ (by decide)]; exact hT, by rw [sA_ne _ _ _ _ (by decide), sA_ne _ _ _ _ (by decide)]; exact hM, by rw [sA_ne _ _ _ _ (by decide), sA_e]; exact nI_0.symm, sA_e _ _ _ _, fun k q => by rw [sA_o _ _ _ _ (show (0 : Nat) ≠ 2 by decide), sA_o _ _ _ _ (show (0 : Nat) ≠ 1 by decide), sA_o _ _ _ _ (show (5 : Nat) ≠ 7 by decide), sA_o _ _ _ _ (show (5 : Nat) ≠ 7 by decide)]; exact hc k q, fun k q => absurd q (by omega)⟩ (by rw [sA_e]; exact nI_0.symm) (by rw [sA_o _ _ _ _ (show (1 : Nat) ≠ 2 by decide)]; exact sA_e _ _ _ _) (by omega) (by omega)
  exact g
