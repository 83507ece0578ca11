/-! two systems side by side: what holds between the law's two objects -/
def INV (B : Nat) (V : LW) : Prop := ROK V.1 ∧ ROK V.2.1 ∧ TWC (V.1.1 0) (V.2.1.1 0) ∧ V.2.1.2.1 = V.1.2.1 ∧ NUM B (V.1.1 0)
theorem INV.up {B B' : Nat} {V : LW} (h : INV B V) (hb : B ≤ B') : INV B' V := ⟨h.1, h.2.1, h.2.2.1, h.2.2.2.1, h.2.2.2.2.up hb⟩
theorem tw_NUM {B : Nat} {C C' : CS} (h : TWC C C') (k : NUM B C) : NUM B C' := k.cg (fun j hj => h.f j (by revert j; decide))
theorem tw_ite {C C' D D' : CS} {c : Prop} [Decidable c] (h : TWC C C') (k : TWC D D') : TWC (if c then C else D) (if c then C' else D') := by
  split
  · exact h
  · exact k
theorem len_P {S : SLS} {P k l : Nat} (hP : (S.1 0).1 4 2 = nI P) (p8 : P ≤ 8) (hk : k < P) (l1 : 10 ≤ l) (l2 : l ≤ 400) :
    (F_S_setLength S (nI k) (nI l)).1 = (if (S.1 0).1 0 k = nI l then (-5 : Int32) else (S.1 0).1 0 k) ∧ (F_S_setLength S (nI k) (nI l)).2.1 0 = (if (S.1 0).1 0 k = nI l then S.1 0 else sC (S.1 0) 0 k (nI l)) ∧ (F_S_setLength S (nI k) (nI l)).2.2.1 = S.2.1 := by
  unfold F_S_setLength F_S_isLength
  dsimp only
  rw [isPath_1 hP p8 hk, show F_S_isWithin (nI l) (10 : Int32) (400 : Int32) = 1 from wi_1 (lo := 10) (hi := 400) l1 l2 (by omega), nI_clamp (show k < 2 ^ 31 by omega)]
  simp only [if_neg (show ¬ (1 : Int32) = 0 by decide)]
  by_cases c : (S.1 0).1 0 k = nI l
  · simp only [if_pos c]; exact ⟨trivial, trivial, trivial⟩
  · simp only [if_neg c]
    rw [sSC_e, rec_1 S (by omega)]
    exact ⟨by first | trivial | rfl, rfl, rec_T S⟩
theorem volt_P {S : SLS} {v : Nat} (v1 : 500 ≤ v) (v2 : v ≤ 1200) :
    (F_S_setVoltage S (nI v)).1 = (if (S.1 0).1 4 7 = nI v then (-5 : Int32) else (S.1 0).1 4 7) ∧ (F_S_setVoltage S (nI v)).2.1 0 = (if (S.1 0).1 4 7 = nI v then S.1 0 else sC (S.1 0) 4 7 (nI v)) ∧ (F_S_setVoltage S (nI v)).2.2.1 = S.2.1 := by
  unfold F_S_setVoltage F_S_isVoltage
  dsimp only
  rw [show F_S_isWithin (nI v) (500 : Int32) (1200 : Int32) = 1 from wi_1 (lo := 500) (hi := 1200) v1 v2 (by omega)]
  simp only [if_neg (show ¬ (1 : Int32) = 0 by decide)]
  by_cases c : (S.1 0).1 4 7 = nI v
  · simp only [if_pos c]; exact ⟨trivial, trivial, trivial⟩
  · simp only [if_neg c]
    rw [sSC_e, rec_1 S (by omega)]
    exact ⟨by first | trivial | rfl, rfl, rec_T S⟩
theorem set_P {S : SLS} {k v : Nat} (hk : k < 7) (h : F_S_isWithin (nI v) (leastS k) (mostS k) = 1) :
    (F_S_set S (nI k) (nI v)).1 = (if (S.1 0).1 3 k = nI v then (-5 : Int32) else (S.1 0).1 3 k) ∧ (F_S_set S (nI k) (nI v)).2.1 0 = (if (S.1 0).1 3 k = nI v then S.1 0 else sC (S.1 0) 3 k (nI v)) ∧ (F_S_set S (nI k) (nI v)).2.2.1 = S.2.1 := by
  unfold F_S_set
  dsimp only
  rw [show F_S_isWithin (nI k) (0 : Int32) (6 : Int32) = 1 from wi_1 (lo := 0) (hi := 6) (by omega) (by omega) (by omega), nI_clamp (show k < 2 ^ 31 by omega), h]
  simp only [if_neg (show ¬ (1 : Int32) = 0 by decide)]
  by_cases c : (S.1 0).1 3 k = nI v
  · simp only [if_pos c]; exact ⟨trivial, trivial, trivial⟩
  · simp only [if_neg c]
    rw [sSC_e, rec_1 S (by omega)]
    exact ⟨by first | trivial | rfl, rfl, rec_T S⟩
theorem gov_P {S : SLS} {a : Int32} :
    (F_S_govern S a).1 = (if (S.1 0).1 4 9 = a then (-5 : Int32) else (S.1 0).1 4 7) ∧ (F_S_govern S a).2.1 0 = (if (S.1 0).1 4 9 = a then S.1 0 else F_C_beginWindow (sC (S.1 0) 4 9 a)) ∧ (F_S_govern S a).2.2.1 = S.2.1 := by
  unfold F_S_govern
  dsimp only
  by_cases c : (S.1 0).1 4 9 = a
  · simp only [if_pos c]; exact ⟨trivial, trivial, trivial⟩
  · simp only [if_neg c]
    rw [sSC_e, sSC_e, rec_1 S (by omega)]
    refine ⟨?_, rfl, rec_T S⟩
    unfold F_C_beginWindow
    dsimp only
    rw [sC_ne _ _ _ _ (by decide), sC_ne _ _ _ _ (by decide), sC_ne _ _ _ _ (by decide)]
theorem c92_true {V : LW} {B : Nat} (h : INV B V) (y : Int32) : (F_L_isStep_c92 V y).1 = 1 ∧ INV B (F_L_isStep_c92 V y).2 := by
  obtain ⟨hO, hP, ht, hx, hN⟩ := h
  obtain ⟨k, _, hk, ek⟩ := up_bn 3 (by omega) (by omega) y
  obtain ⟨j, _, hj, ej⟩ := up_bn 190 (by omega) (by omega) (y >>> ((2 : Int32) &&& 31))
  have el : (40 : Int32) + F_L_up (y >>> ((2 : Int32) &&& 31)) (190 : Int32) = nI (40 + j) := by
    rw [show F_L_up (y >>> ((2 : Int32) &&& 31)) (190 : Int32) = nI j from ej]; exact nI_add 40 j
  have ek : F_L_up y (3 : Int32) = nI k := ek
  obtain ⟨a1, a2, a3⟩ := len_P (S := V.1) (P := 3) (k := k) (l := 40 + j) ht.p (by omega) (by omega) (by omega) (by omega)
  obtain ⟨b1, b2, b3⟩ := len_P (S := V.2.1) (P := 5) (k := k) (l := 40 + j) ht.q (by omega) (by omega) (by omega) (by omega)
  have r1 := hO.setLength (nI k) (nI (40 + j))
  have r2 := hP.setLength (nI k) (nI (40 + j))
  have eqk := ht.l k (by omega)
  unfold F_L_isStep_c92
  dsimp only
  rw [el, ek]
  generalize F_S_setLength V.1 (nI k) (nI (40 + j)) = X at a1 a2 a3 r1 ⊢
  generalize F_S_setLength V.2.1 (nI k) (nI (40 + j)) = Y at b1 b2 b3 r2 ⊢
  rw [eqk] at b1 b2
  have tw : TWC (X.2.1 0) (Y.2.1 0) := by rw [a2, b2]; exact tw_ite ht (tw_len ht k)
  have e1 : (X.2.1 0).1 0 k = nI (40 + j) := by
    rw [a2]
    by_cases c : (V.1.1 0).1 0 k = nI (40 + j)
    · rw [if_pos c]; exact c
    · rw [if_neg c, sC_e]
  refine ⟨?_, r1, r2, tw, b3.trans (hx.trans a3.symm), hN.cg (fun i _ => ?_)⟩
  · rw [if_pos (a1.trans b1.symm), path_0 tw.p (by omega) (by omega), e1, if_pos rfl]
  · rw [a2]
    split
    · rfl
    · rw [sC_o _ _ _ _ (by decide)]
theorem c517_true {V : LW} {B : Nat} (h : INV B V) (y : Int32) : (F_L_isStep_c517 V y).1 = 1 ∧ INV B (F_L_isStep_c517 V y).2 := by
  obtain ⟨hO, hP, ht, hx, hN⟩ := h
  obtain ⟨j, _, hj, ej⟩ := up_bn 701 (by omega) (by omega) y
  have el : (500 : Int32) + F_L_up y (701 : Int32) = nI (500 + j) := by
    rw [show F_L_up y (701 : Int32) = nI j from ej]; exact nI_add 500 j
  obtain ⟨a1, a2, a3⟩ := volt_P (S := V.1) (v := 500 + j) (by omega) (by omega)
  obtain ⟨b1, b2, b3⟩ := volt_P (S := V.2.1) (v := 500 + j) (by omega) (by omega)
  have r1 := hO.setVoltage (nI (500 + j))
  have r2 := hP.setVoltage (nI (500 + j))
  have eqk := ht.f 7 (by decide)
  unfold F_L_isStep_c517
  dsimp only
  rw [el]
  generalize F_S_setVoltage V.1 (nI (500 + j)) = X at a1 a2 a3 r1 ⊢
  generalize F_S_setVoltage V.2.1 (nI (500 + j)) = Y at b1 b2 b3 r2 ⊢
  rw [eqk] at b1 b2
  have tw : TWC (X.2.1 0) (Y.2.1 0) := by rw [a2, b2]; exact tw_ite ht (tw_put ht 7 (by decide) rfl)
  have e1 : (X.2.1 0).1 4 7 = nI (500 + j) := by
    rw [a2]
    by_cases c : (V.1.1 0).1 4 7 = nI (500 + j)
    · rw [if_pos c]; exact c
    · rw [if_neg c, sC_e]
  refine ⟨?_, r1, r2, tw, b3.trans (hx.trans a3.symm), hN.cg (fun i hi => ?_)⟩
  · rw [if_pos (a1.trans b1.symm), cnt_0, e1, if_pos rfl]
  · rw [a2]
    split
    · rfl
    · rw [sC_ne _ _ _ _ (by revert i; decide)]
theorem c562_true {V : LW} {B : Nat} (h : INV B V) (y : Int32) {r : Int32} (hr : r = F_S_count V.1 (0 : Int32)) : (F_L_isStep_c562 V y r).1 = 1 ∧ INV B (F_L_isStep_c562 V y r).2 := by
  obtain ⟨hO, hP, ht, hx, hN⟩ := h
  have hg := hO.ok.o.g
  unfold F_L_isStep_c562
  dsimp only
  have e2 : (if F_S_count V.1 (2 : Int32) = (1 : Int32) then (1 : Int32) else (0 : Int32)) = (V.1.1 0).1 4 9 := by
    rw [cnt_2]
    rcases hg with q | q <;> rw [q] <;> rfl
  have ha : (if F_L_up y (4 : Int32) ≤ (0 : Int32) then (0 : Int32) else (1 : Int32)) = 0 ∨ (if F_L_up y (4 : Int32) ≤ (0 : Int32) then (0 : Int32) else (1 : Int32)) = 1 := by
    split
    · exact Or.inl rfl
    · exact Or.inr rfl
  rw [e2]
  generalize (if F_L_up y (4 : Int32) ≤ (0 : Int32) then (0 : Int32) else (1 : Int32)) = a at ha ⊢
  obtain ⟨a1, a2, a3⟩ := gov_P (S := V.1) (a := a)
  obtain ⟨b1, b2, b3⟩ := gov_P (S := V.2.1) (a := a)
  have r1 := hO.govern ha
  have r2 := hP.govern ha
  generalize F_S_govern V.1 a = X at a1 a2 a3 r1 ⊢
  generalize F_S_govern V.2.1 a = Y at b1 b2 b3 r2 ⊢
  rw [ht.f 9 (by decide), ht.f 7 (by decide)] at b1
  rw [ht.f 9 (by decide)] at b2
  have tw : TWC (X.2.1 0) (Y.2.1 0) := by rw [a2, b2]; exact tw_ite ht (tw_beginW (tw_put ht 9 (by decide) rfl))
  rw [hr, cnt_0]
  by_cases c : (V.1.1 0).1 4 9 = a
  · rw [if_pos c] at a1 a2 b1 b2
    refine ⟨?_, r1, r2, tw, b3.trans (hx.trans a3.symm), by rw [a2]; exact hN⟩
    rw [if_pos (a1.trans b1.symm), if_pos c.symm, if_pos a1, if_pos c.symm]
  · rw [if_neg c] at a1 a2 b1 b2
    have c' : ¬ a = (V.1.1 0).1 4 9 := fun q => c q.symm
    refine ⟨?_, r1, r2, tw, b3.trans (hx.trans a3.symm), ?_⟩
    · rw [if_pos (a1.trans b1.symm), if_neg c', if_pos a1, if_neg c', cnt_8, cnt_9, a2]
      unfold F_C_beginWindow
      dsimp only
      rw [sC_ne _ _ _ _ (show 10 ≠ 11 by decide), sC_e, if_pos rfl, sC_e, if_pos rfl]
    · obtain ⟨s, w, d, l, a', b', n12, n13, n14, n15, n10, n11, n1, n2, n3, n4, n5, n6⟩ := hN
      rw [a2]
      have k : ∀ j, j ≠ 9 → j ≠ 10 → j ≠ 11 → (F_C_beginWindow (sC (V.1.1 0) 4 9 a)).1 4 j = (V.1.1 0).1 4 j := fun j h9 h10 h11 => by
        unfold F_C_beginWindow
        dsimp only
        rw [sC_ne _ _ _ _ h11, sC_ne _ _ _ _ h10, sC_ne _ _ _ _ h9]
      refine ⟨s, w, d, l, 0, 0, (k 12 (by decide) (by decide) (by decide)).trans n12, (k 13 (by decide) (by decide) (by decide)).trans n13, (k 14 (by decide) (by decide) (by decide)).trans n14, (k 15 (by decide) (by decide) (by decide)).trans n15, ?_, ?_, n1, n2, n3, by omega, by omega, fun _ => ⟨rfl, rfl⟩⟩
      · unfold F_C_beginWindow
        dsimp only
        rw [sC_ne _ _ _ _ (by decide), sC_e]; rfl
      · unfold F_C_beginWindow
        dsimp only
        rw [sC_e]; rfl
/-- the value that is set lies within its bounds -/
theorem up_c (n c : Nat) (h : 1 ≤ n) (hn : n + c < 2 ^ 31) (x : Int32) : ∃ v : Nat, c ≤ v ∧ v ≤ c + n - 1 ∧ nI c + F_L_up x (nI n) = nI v := by
  obtain ⟨j, _, h2, e⟩ := up_bn n h (by omega) x
  exact ⟨c + j, by omega, by omega, by rw [e, nI_add]⟩
def setV (k : Nat) (x : Int32) : Int32 := match k with
  | 0 => nI 100 + F_L_up x (nI 200)
  | 1 => F_L_up x (nI 150)
  | 2 => nI 1 + F_L_up x (nI 20)
  | 3 => nI 10 + F_L_up x (nI 90)
  | 4 => F_L_up x (nI 12)
  | 5 => nI 1 + F_L_up x (nI 50)
  | _ => nI 1 + F_L_up x (nI 10)
theorem setV_ok (k : Nat) (hk : k < 7) (x : Int32) : ∃ v : Nat, setV k x = nI v ∧ F_S_isWithin (nI v) (leastS k) (mostS k) = 1 := by
  match k, hk with
  | 0, _ => obtain ⟨v, h1, h2, e⟩ := up_c 200 100 (by omega) (by omega) x; exact ⟨v, e, wi_1 (lo := 50) (hi := 1000) (by omega) (by omega) (by omega)⟩
  | 1, _ => obtain ⟨v, h1, h2, e⟩ := up_bn 150 (by omega) (by omega) x; exact ⟨v, e, wi_1 (lo := 0) (hi := 200) (by omega) (by omega) (by omega)⟩
  | 2, _ => obtain ⟨v, h1, h2, e⟩ := up_c 20 1 (by omega) (by omega) x; exact ⟨v, e, wi_1 (lo := 1) (hi := 20) (by omega) (by omega) (by omega)⟩
  | 3, _ => obtain ⟨v, h1, h2, e⟩ := up_c 90 10 (by omega) (by omega) x; exact ⟨v, e, wi_1 (lo := 10) (hi := 500) (by omega) (by omega) (by omega)⟩
  | 4, _ => obtain ⟨v, h1, h2, e⟩ := up_bn 12 (by omega) (by omega) x; exact ⟨v, e, wi_1 (lo := 0) (hi := 100) (by omega) (by omega) (by omega)⟩
  | 5, _ => obtain ⟨v, h1, h2, e⟩ := up_c 50 1 (by omega) (by omega) x; exact ⟨v, e, wi_1 (lo := 1) (hi := 50) (by omega) (by omega) (by omega)⟩
  | 6, _ => obtain ⟨v, h1, h2, e⟩ := up_c 10 1 (by omega) (by omega) x; exact ⟨v, e, wi_1 (lo := 1) (hi := 10) (by omega) (by omega) (by omega)⟩
theorem setV_eq (k : Nat) (hk : k < 7) (x : Int32) : (if nI k = (0 : Int32) then ((100 : Int32) + F_L_up x (200 : Int32)) else if nI k = (1 : Int32) then F_L_up x (150 : Int32) else if nI k = (2 : Int32) then ((1 : Int32) + F_L_up x (20 : Int32)) else if nI k = (3 : Int32) then ((10 : Int32) + F_L_up x (90 : Int32)) else if nI k = (4 : Int32) then F_L_up x (12 : Int32) else if nI k = (5 : Int32) then ((1 : Int32) + F_L_up x (50 : Int32)) else ((1 : Int32) + F_L_up x (10 : Int32))) = setV k x := by
  match k, hk with
  | 0, _ => rw [if_pos (by decide)]; rfl
  | 1, _ => rw [if_neg (by decide), if_pos (by decide)]; rfl
  | 2, _ => rw [if_neg (by decide), if_neg (by decide), if_pos (by decide)]; rfl
  | 3, _ => rw [if_neg (by decide), if_neg (by decide), if_neg (by decide), if_pos (by decide)]; rfl
  | 4, _ => rw [if_neg (by decide), if_neg (by decide), if_neg (by decide), if_neg (by decide), if_pos (by decide)]; rfl
  | 5, _ => rw [if_neg (by decide), if_neg (by decide), if_neg (by decide), if_neg (by decide), if_neg (by decide), if_pos (by decide)]; rfl
  | 6, _ => rw [if_neg (by decide), if_neg (by decide), if_neg (by decide), if_neg (by decide), if_neg (by decide), if_neg (by decide)]; rfl
theorem c663_true {V : LW} {B : Nat} (h : INV B V) (y : Int32) : (F_L_isStep_c663 V y).1 = 1 ∧ INV B (F_L_isStep_c663 V y).2 := by
  obtain ⟨hO, hP, ht, hx, hN⟩ := h
  obtain ⟨k, _, hk, ek⟩ := up_bn 7 (by omega) (by omega) y
  have ek : F_L_up y (7 : Int32) = nI k := ek
  unfold F_L_isStep_c663
  dsimp only
  rw [ek, setV_eq k (by omega)]
  obtain ⟨v, ev, hv⟩ := setV_ok k (by omega) (y >>> ((3 : Int32) &&& 31))
  rw [ev]
  obtain ⟨a1, a2, a3⟩ := set_P (S := V.1) (k := k) (v := v) (by omega) hv
  obtain ⟨b1, b2, b3⟩ := set_P (S := V.2.1) (k := k) (v := v) (by omega) hv
  have r1 := hO.set (nI k) (nI v)
  have r2 := hP.set (nI k) (nI v)
  have eqk := ht.e k (by omega)
  generalize F_S_set V.1 (nI k) (nI v) = X at a1 a2 a3 r1 ⊢
  generalize F_S_set V.2.1 (nI k) (nI v) = Y at b1 b2 b3 r2 ⊢
  rw [eqk] at b1 b2
  have tw : TWC (X.2.1 0) (Y.2.1 0) := by rw [a2, b2]; exact tw_ite ht (tw_sett ht k)
  have e1 : (X.2.1 0).1 3 k = nI v := by
    rw [a2]
    by_cases c : (V.1.1 0).1 3 k = nI v
    · rw [if_pos c]; exact c
    · rw [if_neg c, sC_e]
  refine ⟨?_, r1, r2, tw, b3.trans (hx.trans a3.symm), hN.cg (fun i hi => ?_)⟩
  · rw [if_pos (a1.trans b1.symm), show (17 : Int32) + nI k = nI (17 + k) from nI_add 17 k, cnt_sett _ k (by omega), e1, if_pos rfl]
  · rw [a2]
    split
    · rfl
    · rw [sC_o _ _ _ _ (by decide)]
/-! least, best, would -/
theorem tw_leastL {S P : SLS} (h : TWC (S.1 0) (P.1 0)) (r j : Int32) : ∀ (n : Nat) (x : Int32), L_S_least_23 P r j n x = L_S_least_23 S r j n x
  | 0, _ => rfl
  | n + 1, x => by
    simp only [L_S_least_23]
    rw [tw_judge h, h.f 8 (by decide), tw_leastL h r j n]
theorem tw_least {S P : SLS} (h : TWC (S.1 0) (P.1 0)) (hO : OKC (S.1 0)) (a : Int32) : F_S_least P a = F_S_least S a := by
  unfold F_S_least
  dsimp only
  rw [tw_liw h hO, tw_leastL h]
theorem least_0 {S : SLS} {r : Int32} : ∀ (n k : Nat), 500 ≤ k → k ≤ 1201 → 1202 ≤ k + n → L_S_least_23 S r (0 : Int32) n (nI k) = (-5 : Int32) ∨ ∃ m : Nat, k ≤ m ∧ m ≤ 1200 ∧ L_S_least_23 S r (0 : Int32) n (nI k) = nI m
  | 0, k, _, h1, h2 => absurd h2 (by omega)
  | n + 1, k, h0, h1, h2 => by
    simp only [L_S_least_23]
    by_cases c : 1200 < k
    · rw [if_pos (show (1200 : Int32) < nI k from nI_lt (a := 1200) c (by omega))]; exact Or.inl rfl
    · rw [if_neg (show ¬ (1200 : Int32) < nI k from nI_nlt (a := 1200) (by omega) (by omega)), nI_1]
      split
      · rcases least_0 (S := S) (r := r) n (k + 1) (by omega) (by omega) (by omega) with q | ⟨m, m1, m2, m3⟩
        · exact Or.inl q
        · exact Or.inr ⟨m, by omega, m2, m3⟩
      · exact Or.inr ⟨k, Nat.le_refl _, by omega, rfl⟩
theorem least_01 {S : SLS} {r : Int32} : ∀ (n k : Nat), 500 ≤ k → k ≤ 1201 → 1202 ≤ k + n → L_S_least_23 S r (0 : Int32) n (nI k) = (-5 : Int32) ∨ ∃ m1 m0 : Nat, 500 ≤ m1 ∧ m1 ≤ m0 ∧ m0 ≤ 1200 ∧ L_S_least_23 S r (1 : Int32) n (nI k) = nI m1 ∧ L_S_least_23 S r (0 : Int32) n (nI k) = nI m0
  | 0, k, _, h1, h2 => absurd h2 (by omega)
  | n + 1, k, h0, h1, h2 => by
    simp only [L_S_least_23]
    by_cases c : 1200 < k
    · rw [if_pos (show (1200 : Int32) < nI k from nI_lt (a := 1200) c (by omega))]; exact Or.inl rfl
    · rw [if_neg (show ¬ (1200 : Int32) < nI k from nI_nlt (a := 1200) (by omega) (by omega)), if_neg (show ¬ (1200 : Int32) < nI k from nI_nlt (a := 1200) (by omega) (by omega)), nI_1]
      generalize F_C_judge (S.1 0) (F_C_delayOf r (nI k) ((S.1 0).1 4 8)) = J
      by_cases c0 : (0 : Int32) < J
      · rw [if_pos c0]
        by_cases c1 : (1 : Int32) < J
        · rw [if_pos c1]; exact least_01 n (k + 1) (by omega) (by omega) (by omega)
        · rw [if_neg c1]
          rcases least_0 (S := S) (r := r) n (k + 1) (by omega) (by omega) (by omega) with q | ⟨m, m1, m2, m3⟩
          · exact Or.inl q
          · exact Or.inr ⟨k, m, by omega, by omega, m2, rfl, m3⟩
      · rw [if_neg c0]
        have c1 : ¬ (1 : Int32) < J := fun q => c0 (Int32.lt_trans (by decide) q)
        rw [if_neg c1]
        exact Or.inr ⟨k, k, by omega, by omega, by omega, rfl, rfl⟩
theorem least_le (S : SLS) : F_S_least S (0 : Int32) = (-5 : Int32) ∨ ∃ m1 m0 : Nat, 500 ≤ m1 ∧ m1 ≤ m0 ∧ m0 ≤ 1200 ∧ F_S_least S (1 : Int32) = nI m1 ∧ F_S_least S (0 : Int32) = nI m0 := least_01 702 500 (by omega) (by omega) (by omega)
theorem tw_try {S P : SLS} (h : TWC (S.1 0) (P.1 0)) (hO : OKC (S.1 0)) {v : Int32} {K : Nat} (hv : bn 500 1200 v) (hK : K ≤ 2000) : TWC ((F_S_tryCycles S v (nI K)).1 2) ((F_S_tryCycles P v (nI K)).1 2) := by
  rw [tryC_2, tryC_2, runs_stepN hK, runs_stepN hK]
  exact tw_stepN K _ _ (tw_put (tw_put (tw_cp h) 9 (by decide) rfl) 7 (by decide) rfl) (OKC_try hO hv _)
theorem tw_bestL {K : Nat} (k2 : K ≤ 200) : ∀ (n : Nat) (x2 : Int32) (x3 : Int64) (x5 : Int32) (S P : SLS), TWC (S.1 0) (P.1 0) → OKC (S.1 0) → bs5 n x5 → (L_S_best_24 (nI K) n x2 x3 x5 P).1 = (L_S_best_24 (nI K) n x2 x3 x5 S).1 ∧ ((L_S_best_24 (nI K) n x2 x3 x5 S).2.1 0 = S.1 0 ∧ (L_S_best_24 (nI K) n x2 x3 x5 S).2.2.1 = S.2.1) ∧ ((L_S_best_24 (nI K) n x2 x3 x5 P).2.1 0 = P.1 0 ∧ (L_S_best_24 (nI K) n x2 x3 x5 P).2.2.1 = P.2.1)
  | 0, _, _, _, _, _, _, _, hi => by
    obtain ⟨j, _, h1, h2⟩ := hi
    omega
  | n + 1, x2, x3, x5, S, P, h, hO, hi => by
    simp only [L_S_best_24]
    by_cases c1 : (1200 : Int32) < x5
    · simp only [if_pos c1]; exact ⟨trivial, ⟨trivial, trivial⟩, trivial, trivial⟩
    simp only [if_neg c1]
    have hv := bs5_v hi c1
    have hi2 : bs5 n (x5 + (50 : Int32)) := bs5_b hi c1 rfl
    have ht := tw_try h hO hv (K := K) (by omega)
    have eS := tryC_o S x5 (nI K) (i := 0) (by decide)
    have eP := tryC_o P x5 (nI K) (i := 0) (by decide)
    rw [eS, eP, ht.n, h.n, ht.f 15 (by decide), h.f 15 (by decide)]
    generalize (if ((F_S_tryCycles S x5 (nI K)).1 2).1 4 15 = (S.1 0).1 4 15 then _ else (x2, x3)) = q
    have ih := tw_bestL k2 n q.1 q.2 (x5 + (50 : Int32)) (F_S_tryCycles S x5 (nI K)) (F_S_tryCycles P x5 (nI K)) (by rw [eS, eP]; exact h) (by rw [eS]; exact hO) hi2
    rw [eS, eP] at ih
    exact ih
theorem tw_best {S P : SLS} (h : TWC (S.1 0) (P.1 0)) (hO : OKC (S.1 0)) {K : Nat} (k1 : 1 ≤ K) (k2 : K ≤ 200) : (F_S_best P (nI K)).1 = (F_S_best S (nI K)).1 ∧ ((F_S_best S (nI K)).2.1 0 = S.1 0 ∧ (F_S_best S (nI K)).2.2.1 = S.2.1) ∧ ((F_S_best P (nI K)).2.1 0 = P.1 0 ∧ (F_S_best P (nI K)).2.2.1 = P.2.1) := by
  unfold F_S_best
  dsimp only
  rw [show F_S_isWithin (nI K) (1 : Int32) (200 : Int32) = 1 from wi_1 (lo := 1) (hi := 200) k1 k2 (by omega), if_neg (by decide), if_neg (by decide)]
  exact tw_bestL k2 16 _ _ _ S P h hO ⟨0, rfl, by omega, by omega⟩
theorem tw_would {S P : SLS} (h : TWC (S.1 0) (P.1 0)) (hO : OKC (S.1 0)) {v K w : Nat} (v1 : 500 ≤ v) (v2 : v ≤ 1200) (k1 : 1 ≤ K) (k2 : K ≤ 500) (w4 : w ≤ 4) : (F_S_would P (nI v) (nI K) (nI w)).1 = (F_S_would S (nI v) (nI K) (nI w)).1 ∧ ((F_S_would S (nI v) (nI K) (nI w)).2.1 0 = S.1 0 ∧ (F_S_would S (nI v) (nI K) (nI w)).2.2.1 = S.2.1) ∧ ((F_S_would P (nI v) (nI K) (nI w)).2.1 0 = P.1 0 ∧ (F_S_would P (nI v) (nI K) (nI w)).2.2.1 = P.2.1) := by
  unfold F_S_would F_S_isVoltage
  dsimp only
  simp only [show F_S_isWithin (nI v) (500 : Int32) (1200 : Int32) = 1 from wi_1 (lo := 500) (hi := 1200) v1 v2 (by omega), show F_S_isWithin (nI K) (1 : Int32) (500 : Int32) = 1 from wi_1 (lo := 1) (hi := 500) k1 k2 (by omega), show F_S_isWithin (nI w) (0 : Int32) (4 : Int32) = 1 from wi_1 (lo := 0) (hi := 4) (by omega) w4 (by omega), if_neg (show ¬ (1 : Int32) = 0 by decide)]
  have ht := tw_try h hO (v := nI v) ⟨v, v1, v2, rfl⟩ (K := K) (by omega)
  have eS := tryC_o S (nI v) (nI K) (i := 0) (by decide)
  have eP := tryC_o P (nI v) (nI K) (i := 0) (by decide)
  have sS : (F_S_tryCycles S (nI v) (nI K)).2.1 = S.2.1 := by rw [tryC_s]
  have sP : (F_S_tryCycles P (nI v) (nI K)).2.1 = P.2.1 := by rw [tryC_s]
  generalize F_S_tryCycles S (nI v) (nI K) = X at ht eS sS ⊢
  generalize F_S_tryCycles P (nI v) (nI K) = Y at ht eP sP ⊢
  rw [eS, eP, ht.f 14 (by decide), h.f 14 (by decide), ht.f 15 (by decide), h.f 15 (by decide), ht.n, h.n, ht.f 12 (by decide), h.f 12 (by decide), ht.f 8 (by decide)]
  refine ⟨?_, ?_, ?_⟩
  · repeat' split
    all_goals rfl
  · repeat' split
    all_goals exact ⟨eS, sS⟩
  · repeat' split
    all_goals exact ⟨eP, sP⟩
theorem c843_true {V : LW} {B : Nat} (h : INV B V) (y : Int32) : (F_L_isStep_c843 V y).1 = 1 ∧ INV B (F_L_isStep_c843 V y).2 := by
  obtain ⟨hO, hP, ht, hx, hN⟩ := h
  have hOK := hO.ok.o
  obtain ⟨K, k1, k2, eK⟩ := up_1 40 (by omega) (by omega) y
  have eK : (1 : Int32) + F_L_up y (40 : Int32) = nI K := eK
  obtain ⟨v, v1, v2, ev⟩ := up_c 701 500 (by omega) (by omega) y
  have ev : (500 : Int32) + F_L_up y (701 : Int32) = nI v := ev
  obtain ⟨q, _, q2, eq⟩ := up_bn 5 (by omega) (by omega) (y >>> ((9 : Int32) &&& 31))
  have eq : F_L_up (y >>> ((9 : Int32) &&& 31)) (5 : Int32) = nI q := eq
  obtain ⟨a1, ⟨a2, a3⟩, a4, a5⟩ := tw_best ht hOK (K := K) k1 (by omega)
  have r1 := hO.best (nI K)
  have r2 := hP.best (nI K)
  unfold F_L_isStep_c843
  dsimp only
  rw [eK, ev, eq]
  generalize F_S_best V.1 (nI K) = X at a1 a2 a3 r1 ⊢
  generalize F_S_best V.2.1 (nI K) = Y at a1 a4 a5 r2 ⊢
  have ht2 : TWC (X.2.1 0) (Y.2.1 0) := by rw [a2, a4]; exact ht
  have hOK2 : OKC (X.2.1 0) := by rw [a2]; exact hOK
  have l1 : F_S_least Y.2 (1 : Int32) = F_S_least V.1 (1 : Int32) := by
    rw [tw_least (S := V.1) (P := Y.2) (by rw [a4]; exact ht) hOK]
  have l0 : F_S_least Y.2 (0 : Int32) = F_S_least V.1 (0 : Int32) := by
    rw [tw_least (S := V.1) (P := Y.2) (by rw [a4]; exact ht) hOK]
  rw [l1, l0, if_pos a1.symm, if_pos rfl, if_pos rfl]
  have hl : (if F_S_least V.1 (0 : Int32) = (-5 : Int32) then (1 : Int32) else if F_S_least V.1 (1 : Int32) < (500 : Int32) then (0 : Int32) else if F_S_least V.1 (0 : Int32) < F_S_least V.1 (1 : Int32) then (0 : Int32) else (1 : Int32)) = 1 := by
    rcases least_le V.1 with z | ⟨m1, m0, z1, z2, z3, z4, z5⟩
    · rw [if_pos z]
    · split
      · rfl
      · rw [z4, z5, if_neg (show ¬ nI m1 < (500 : Int32) from nI_nlt (b := 500) z1 (by omega)), if_neg (nI_nlt z2 (by omega))]
  rw [hl, if_neg (show ¬ (1 : Int32) = 0 by decide)]
  obtain ⟨b1, ⟨b2, b3⟩, b4, b5⟩ := tw_would ht2 hOK2 (v := v) (K := K) (w := q) v1 (by omega) k1 (by omega) (by omega)
  have r3 := r1.would (nI v) (nI K) (nI q)
  have r4 := r2.would (nI v) (nI K) (nI q)
  generalize F_S_would X.2 (nI v) (nI K) (nI q) = G at b1 b2 b3 r3 ⊢
  generalize F_S_would Y.2 (nI v) (nI K) (nI q) = W at b1 b4 b5 r4 ⊢
  rw [if_pos b1.symm]
  refine ⟨rfl, r3, r4, ?_, ?_, ?_⟩
  · show TWC (G.2.1 0) (W.2.1 0)
    rw [b2, b4]; exact ht2
  · show W.2.2.1 = G.2.2.1
    rw [b5, b3, a5, a3]; exact hx
  · show NUM B (G.2.1 0)
    rw [b2, a2]; exact hN
/-! a run, and cycle by cycle -/
theorem cyc_state {S : SLS} (h : ROK S) : ROK (F_L_isCycle S).2 ∧ (F_L_isCycle S).2.1 0 = stepC (S.1 0) ∧ (F_L_isCycle S).2.2.1 = S.2.1 := by
  obtain ⟨-, r2, r3⟩ := run_1 S
  refine ⟨h.isCycle, ?_, ?_⟩
  · rw [cyc_2]; exact r2
  · rw [cyc_2]; exact r3
theorem run_loop {K : Nat} (k2 : K ≤ 200) : ∀ (n k B : Nat) (V : LW), k ≤ K → K + 1 ≤ k + n → B + 21 * (K - k) < 2 ^ 29 → ROK V.2.1 → NUM B (V.2.1.1 0) → (L_L_isStep_443 (nI K) n (1 : Int32) (nI k) V).1 = 1 ∧ (L_L_isStep_443 (nI K) n (1 : Int32) (nI k) V).2.1 = V.1 ∧ ROK (L_L_isStep_443 (nI K) n (1 : Int32) (nI k) V).2.2.1 ∧ (L_L_isStep_443 (nI K) n (1 : Int32) (nI k) V).2.2.1.1 0 = stepN (K - k) (V.2.1.1 0) ∧ (L_L_isStep_443 (nI K) n (1 : Int32) (nI k) V).2.2.1.2.1 = V.2.1.2.1
  | 0, k, _, _, h1, h2, _, _, _ => absurd h2 (by omega)
  | n + 1, k, B, V, h1, h2, hB, hR, hN => by
    simp only [L_L_isStep_443]
    by_cases c : K ≤ k
    · rw [if_pos (nI_le c (by omega)), show K - k = 0 by omega]
      exact ⟨rfl, rfl, hR, rfl, rfl⟩
    · rw [if_neg (nI_ge (by omega) (by omega)), if_neg (show ¬ (1 : Int32) = 0 by decide)]
      have e1 := cycle_true hR.ok hN (by omega)
      obtain ⟨d1, d2, d3⟩ := cyc_state hR
      have hN2 := (step_eff hR.ok.o hN (by omega)).2.1
      rw [e1, nI_1]
      generalize (F_L_isCycle V.2.1).2 = Q at d1 d2 d3 ⊢
      obtain ⟨i1, i2, i3, i4, i5⟩ := run_loop k2 n (k + 1) (B + 21) (V.1, Q, V.2.2) (by omega) (by omega) (by omega) d1 (by show NUM (B + 21) (Q.1 0); rw [d2]; exact hN2)
      refine ⟨i1, i2, i3, ?_, i5.trans d3⟩
      rw [i4]
      show stepN (K - (k + 1)) (Q.1 0) = _
      rw [d2, show K - k = (K - (k + 1)) + 1 by omega]
      rfl
theorem c384_true {V : LW} {B : Nat} (h : INV B V) (hB : B < 2 ^ 28) (y : Int32) {r : Int32} (hr : r = F_S_count V.1 (3 : Int32)) : (F_L_isStep_c384 V y r).1 = 1 ∧ INV (B + 4200) (F_L_isStep_c384 V y r).2 := by
  obtain ⟨hO, hP, ht, hx, hN⟩ := h
  have hOK := hO.ok.o
  have hK : ∃ K : Nat, 1 ≤ K ∧ K ≤ 200 ∧ (1 : Int32) + F_L_up y (if F_L_up (y >>> ((6 : Int32) &&& 31)) (3 : Int32) = (0 : Int32) then (200 : Int32) else (30 : Int32)) = nI K := by
    split
    · obtain ⟨K, k1, k2, e⟩ := up_1 200 (by omega) (by omega) y
      exact ⟨K, k1, k2, e⟩
    · obtain ⟨K, k1, k2, e⟩ := up_1 30 (by omega) (by omega) y
      exact ⟨K, k1, by omega, e⟩
  obtain ⟨K, k1, k2, eK⟩ := hK
  unfold F_L_isStep_c384
  dsimp only
  rw [eK]
  obtain ⟨a1, a2⟩ := run_K V.1 k1 (show K ≤ 2000 by omega)
  have a3 : (F_S_run V.1 (nI K)).2.1 0 = stepN K (V.1.1 0) := by rw [a2, sSC_e]
  have a4 : (F_S_run V.1 (nI K)).2.2.1 = V.1.2.1 := by rw [a2, sSC_2, rec_T]
  have r1 := hO.run (nI K)
  clear a2
  generalize F_S_run V.1 (nI K) = X at a1 a3 a4 r1 ⊢
  obtain ⟨hN2, s, c, s', c', p1, p2, p3, p4, p5, p6, p7, p8, p9, p10, p11⟩ := runs_eff K (V.1.1 0) B hOK hN (by omega)
  have et : X.1 = nI (c' - c) := by rw [a1, p4, p2, pk_sub p7]
  rw [et, if_neg (nI_pos (by omega)), if_neg (nI_nlt (show c' - c ≤ K by omega) (by omega))]
  obtain ⟨i1, i2, i3, i4, i5⟩ := run_loop k2 201 0 B (X.2, V.2) (by omega) (by omega) (by omega) hP (tw_NUM ht hN)
  rw [show (0 : Int32) = nI 0 from rfl] at *
  generalize L_L_isStep_443 (nI K) 201 (1 : Int32) (nI 0) (X.2, V.2) = Q at i1 i2 i3 i4 i5 ⊢
  rw [Nat.sub_zero] at i4
  have tw : TWC (Q.2.1.1 0) (Q.2.2.1.1 0) := by rw [i2, i4]; show TWC (X.2.1 0) _; rw [a3]; exact tw_stepN K _ _ ht hOK
  have e5 : F_S_count Q.2.2.1 (5 : Int32) = F_S_count Q.2.1 (5 : Int32) := (tw_count tw 5 (by omega) (by omega) (by omega) (by omega)).symm
  have e3 : F_S_count Q.2.1 (3 : Int32) = F_S_count Q.2.2.1 (3 : Int32) := tw_count tw 3 (by omega) (by omega) (by omega) (by omega)
  have es : F_S_count Q.2.1 (3 : Int32) = nI s' := by rw [cnt_3, i2]; show (X.2.1 0).1 4 12 = _; rw [a3]; exact p3
  refine ⟨?_, by rw [i2]; exact r1, i3, tw, by rw [i5, i2]; exact hx.trans a4.symm, by rw [i2]; show NUM _ (X.2.1 0); rw [a3]; exact hN2.up (by omega)⟩
  rw [i1, if_neg (show ¬ (1 : Int32) = nI 0 by decide), if_pos e5, if_pos e3, es, hr, cnt_3, p1, nI_add, if_neg (nI_nlt (by omega) (by omega))]
