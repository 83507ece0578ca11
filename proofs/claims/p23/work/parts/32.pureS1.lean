/-! rows of the system's numbers -/
section
variable {p : Program} {l : Launch} {e : Env} {R : Room} {s : State} {m : MethodId} {args : Array Value} {below : List Frame} {meth : Method} {c : Code} {D : va_G} {kI kC kQ : ClassId} {A : Nat → Prop} {nL ce sl : Nat} {Q : State → Prop} {lv : List (Nat × Value)} {pc : Nat} {st : List Value} {o r : Nat → Nat} {ad : Nat → Nat → Nat} {y0 : SLS}
theorem zS_nm (k : ∀ y : SLS, y = y0 → Z p l e R s m args below meth c D A nL ce sl Q (wS kI kC kQ o r ad y) lv pc st) : Z p l e R s m args below meth c D A nL ce sl Q (wS kI kC kQ o r ad y0) lv pc st := k _ rfl
theorem z_topl {w : va_W} {x : Int64} (k : ∀ y : Int64, y = x → Z p l e R s m args below meth c D A nL ce sl Q w lv pc (.long y :: st)) : Z p l e R s m args below meth c D A nL ce sl Q w lv pc (.long x :: st) := k _ rfl
end
theorem sSC_e (S : SLS) (i : Nat) (c : CS) : (sSC S i c).1 i = c := by simp [sSC]
theorem sSC_ne (S : SLS) {i j : Nat} (c : CS) (h : j ≠ i) : (sSC S i c).1 j = S.1 j := by simp [sSC, h]
theorem sSC_2 (S : SLS) (i : Nat) (c : CS) : (sSC S i c).2 = S.2 := rfl
theorem sV_1 (S : SLS) (k : Nat) (v : Int32) : (sV S k v).1 = S.1 := rfl
theorem sV_T (S : SLS) (k : Nat) (v : Int32) : (sV S k v).2.1 = S.2.1 := rfl
theorem sV_e (S : SLS) (k : Nat) (v : Int32) : (sV S k v).2.2 k = v := by simp [sV, upd]
theorem sV_ne (S : SLS) {k j : Nat} (v : Int32) (h : j ≠ k) : (sV S k v).2.2 j = S.2.2 j := by simp [sV, upd, h]
theorem sT_1 (S : SLS) (t : ARR) : (sT S t).1 = S.1 := rfl
theorem sT_T (S : SLS) (t : ARR) : (sT S t).2.1 = t := rfl
theorem sT_V (S : SLS) (t : ARR) : (sT S t).2.2 = S.2.2 := rfl
theorem drop_1 (S : SLS) {i : Nat} (h : i < 3) : (F_S_dropOldestState S).1 i = S.1 i := by
  unfold F_S_dropOldestState
  dsimp only
  rw [if_neg (by omega), if_neg (by omega), if_neg (by omega), if_neg (by omega)]
theorem drop_T (S : SLS) : (F_S_dropOldestState S).2.1 = S.2.1 := rfl
theorem drop_5 (S : SLS) : (F_S_dropOldestState S).2.2 5 = 3 := by simp [F_S_dropOldestState, upd]
theorem drop_6 (S : SLS) : (F_S_dropOldestState S).2.2 6 = S.2.2 6 := by simp [F_S_dropOldestState, upd]
theorem rec_1 (S : SLS) {i : Nat} (h : i < 3) : (F_S_recordState S).1 i = S.1 i := by
  unfold F_S_recordState
  dsimp only
  rw [sV_1, sSC_ne _ _ (by omega)]
  split
  · exact drop_1 S h
  · rfl
theorem rec_T (S : SLS) : (F_S_recordState S).2.1 = S.2.1 := by
  unfold F_S_recordState
  dsimp only
  rw [sV_T, sSC_2]
  split
  · rfl
  · rfl
theorem rec_6 (S : SLS) : (F_S_recordState S).2.2 6 = S.2.2 6 := by
  unfold F_S_recordState
  dsimp only
  rw [sV_ne _ _ (by decide), sSC_2]
  split
  · exact drop_6 S
  · rfl
theorem SF_cp : ∀ p ∈ SF, p.1 ∈ cpL := by decide
theorem cpC_4 (C C2 : CS) {j : Nat} (h : j ∈ cpL) : (cpC C C2).1 4 j = C2.1 4 j := by
  show (if j ∈ cpL then C2.1 4 j else C.1 4 j) = _
  rw [if_pos h]
/-! isWithin -/
theorem wi_eq (a b c : Int32) : F_S_isWithin a b c = if b ≤ a ∧ a ≤ c then 1 else 0 := by
  unfold F_S_isWithin
  dsimp only
  by_cases h1 : a < b
  · rw [if_pos h1, if_neg (fun q => Int32.lt_irrefl (Int32.lt_of_lt_of_le h1 q.1))]
  · rw [if_neg h1]
    by_cases h2 : c < a
    · rw [if_pos h2, if_neg (fun q => Int32.lt_irrefl (Int32.lt_of_lt_of_le h2 q.2))]
    · rw [if_neg h2, if_pos ⟨Int32.not_lt.mp h1, Int32.not_lt.mp h2⟩]
theorem bl_isWithin (a b c : Int32) : F_S_isWithin a b c = 0 ∨ F_S_isWithin a b c = 1 := by
  rw [wi_eq]; exact bl_ite (Or.inr rfl) (Or.inl rfl)
theorem le_toInt {a b : Int32} : a ≤ b ↔ a.toInt ≤ b.toInt := Int32.le_iff_toInt_le
theorem wi_bn (lo hi : Nat) (hh : lo < 2 ^ 31 ∧ hi < 2 ^ 31) {x r : Int32} (e : r = F_S_isWithin x (nI lo) (nI hi)) (h : ¬ r = 0) : bn lo hi x := by
  rw [e, wi_eq] at h
  by_cases q : nI lo ≤ x ∧ x ≤ nI hi
  · have h1 := le_toInt.mp q.1
    have h2 := le_toInt.mp q.2
    rw [nI_toInt hh.1] at h1
    rw [nI_toInt hh.2] at h2
    obtain ⟨j, hj⟩ : ∃ j : Nat, x.toInt = j := ⟨x.toInt.toNat, by omega⟩
    have e1 : x = nI j := Int32.toInt_inj.mp (by rw [hj, nI_toInt (by omega)])
    exact ⟨j, by omega, by omega, e1⟩
  · rw [if_neg q] at h
    exact absurd rfl h
theorem S_path_P {S : SLS} {a r : Int32} {P : Nat} (hP : (S.1 0).1 4 2 = nI P) (h1 : 1 ≤ P) (h2 : P ≤ 8) (e : r = F_S_isPath S a) (h : ¬ r = 0) : ∃ k : Nat, k < P ∧ a = nI k := by
  have e2 : r = F_S_isWithin a (nI 0) (nI (P - 1)) := by
    rw [e]
    unfold F_S_isPath
    show F_S_isWithin a (nI 0) ((S.1 0).1 4 2 - nI 1) = _
    rw [hP, show nI P - nI 1 = nI (P - 1) from pk_sub (a := P) (b := 1) h1]
  obtain ⟨k, _, h3, h4⟩ := wi_bn 0 (P - 1) (by omega) e2 h
  exact ⟨k, by omega, h4⟩
theorem S_path_lt {S : SLS} {a r : Int32} (hp : bn 1 8 ((S.1 0).1 4 2)) (e : r = F_S_isPath S a) (h : ¬ r = 0) : ∃ k : Nat, k < 8 ∧ a = nI k := by
  obtain ⟨P, h1, h2, hP⟩ := hp
  obtain ⟨k, h3, h4⟩ := S_path_P hP h1 h2 e h
  exact ⟨k, by omega, h4⟩
theorem bn_l8 {x : Int32} (h : bn 1 8 x) (hc : x < (8 : Int32)) : ∃ k : Nat, k < 8 ∧ x = nI k := by
  obtain ⟨k, _, h2, rfl⟩ := h
  exact ⟨k, (nI_ltI (a := k) (b := 8) (by omega) (by omega)).mp hc, rfl⟩
theorem bn_4v {x : Int32} (h : bn 0 3 x) : vp_in x 4 := by
  obtain ⟨k, _, h2, rfl⟩ := h
  exact vp_in_nI (by omega) (by omega)
theorem bn_4k {x : Int32} (h : bn 0 3 x) : x.toNatClampNeg < 4 := by
  obtain ⟨k, _, h2, rfl⟩ := h
  rw [nI_clamp (by omega)]
  omega
/-! what read leaves -/
theorem Lread_P {t : Nat} (ht : t ≤ 60) : ∀ (n : Nat) (x y : Int32) (T : ARR), T 2 1 = nI t → bn 1 16 (T 2 3) → (L_T_read_16 n x y T).2 2 1 = nI t ∧ bn 1 16 ((L_T_read_16 n x y T).2 2 3) ∧ (L_T_read_16 n x y T).2 0 = T 0
  | 0, _, _, _, h1, h2 => ⟨h1, h2, rfl⟩
  | n + 1, x, y, T, h1, h2 => by
    simp only [L_T_read_16]
    repeat' split
    all_goals first
      | exact ⟨h1, h2, rfl⟩
      | exact Lread_P ht n _ _ _ h1 h2
      | (rename_i hc
         obtain ⟨q1, q2, q3⟩ := Lread_P ht n (-1) (y + (1 : Int32)) (sA (sA T 1 ((T 2 3).toNatClampNeg) (0 : Int32)) 2 3 ((sA T 1 ((T 2 3).toNatClampNeg) (0 : Int32) 2 3) + (1 : Int32))) (by rw [sA_ne _ _ _ _ (by decide), sA_o _ _ _ _ (by decide)]; exact h1) (by rw [sA_e, sA_o _ _ _ _ (by decide)]; exact bn_inc16 h2 hc)
         exact ⟨q1, q2, q3.trans (by rw [sA_o _ _ _ _ (by decide), sA_o _ _ _ _ (by decide)])⟩)
      | (obtain ⟨q1, q2, q3⟩ := Lread_P ht n ((T 0 (y.toNatClampNeg)) - (48 : Int32)) (y + (1 : Int32)) (sA T 1 (((T 2 3) - (1 : Int32)).toNatClampNeg) ((T 1 (((T 2 3) - (1 : Int32)).toNatClampNeg)) ||| ((1 : Int32) <<< (((T 0 (y.toNatClampNeg)) - (48 : Int32)) &&& 31)))) (by rw [sA_o _ _ _ _ (by decide)]; exact h1) (by rw [sA_o _ _ _ _ (by decide)]; exact h2)
         exact ⟨q1, q2, q3.trans (by rw [sA_o _ _ _ _ (by decide)])⟩)
theorem read_P {T : ARR} (h : bn 0 60 (T 2 1)) : (F_T_read T).2 2 1 = T 2 1 ∧ bn 1 16 ((F_T_read T).2 2 3) ∧ (F_T_read T).2 0 = T 0 := by
  obtain ⟨t, _, h2, h3⟩ := h
  rw [h3]
  obtain ⟨q1, q2, q3⟩ := Lread_P h2 61 (-1) 0 (sA (sA T 1 0 0) 2 3 1) (by rw [sA_ne _ _ _ _ (by decide), sA_o _ _ _ _ (by decide)]; exact h3) (by rw [sA_e]; exact ⟨1, by omega, by omega, rfl⟩)
  exact ⟨q1, q2, q3.trans (by rw [sA_o _ _ _ _ (by decide), sA_o _ _ _ _ (by decide)])⟩
/-! stand-in rows for what a recording call leaves -/
theorem recP_p {S : SLS} (h : OKS S) : bn 1 8 (((F_S_recordState S).1 0).1 4 2) := by rw [rec_1 S (by omega)]; exact h.o.p
theorem recP_O {S : SLS} (h : OKS S) : OKC ((F_S_recordState S).1 0) := by rw [rec_1 S (by omega)]; exact h.o
theorem recP_b {S : SLS} (h : OKS S) : ((F_S_recordState S).1 1).1 4 9 = 0 ∨ ((F_S_recordState S).1 1).1 4 9 = 1 := by rw [rec_1 S (by omega)]; exact h.b 1 (by omega)
theorem OKS_T {S : SLS} {t : ARR} (h : OKS S) (ht : bn 0 60 (t 2 1)) : OKS (sT S t) := ⟨h.1, h.2.1, h.2.2.1, ht, h.2.2.2.2⟩
theorem OKS_read {S : SLS} (h : OKS S) : OKS (sT S (F_T_read S.2.1).2) := OKS_T h (by rw [(read_P h.t).1]; exact h.t)
/-! a circuit copied, and the circuit that is tried -/
theorem cpy_lt (f g : Nat → Int32) {n k : Nat} (h : k < n) : va_cpy f g 0 0 n k = f k := by
  simp [va_cpy, h]
theorem rel_cp {d : Int32} {C C' : CS} {a : Nat → Int32} (h : RelD d C a) : RelD d (cpC C' C) a := by
  refine ⟨fun k hk => ?_, fun k hk => ?_, fun k N hN h16 hk => ?_, fun k hk => ?_, fun k hk => ?_, ?_, fun i j q => ?_⟩
  · exact (cpy_lt (C.1 0) (C'.1 0) hk).trans (h.l k hk)
  · exact (cpy_lt (C.1 1) (C'.1 1) hk).trans (h.u k hk)
  · exact (cpy_lt (C.1 2) (C'.1 2) (Nat.lt_of_lt_of_le hk h16)).trans (h.s k N hN h16 hk)
  · rw [show (cpC C' C).1 2 k = C.1 2 k from cpy_lt (C.1 2) (C'.1 2) hk]; exact h.t k hk
  · exact (cpy_lt (C.1 3) (C'.1 3) hk).trans (h.e k hk)
  · rw [cpC_4 _ _ (by decide)]; exact h.w
  · rw [cpC_4 _ _ (SF_cp (i, j) q)]; exact h.f i j q
theorem relE_cp {B : Nat} {C C' : CS} {a : Nat → Int32} (h : RelE B C a) : RelE B (cpC C' C) a := relE_c h rfl rfl rfl
theorem OKC_cp {C C' : CS} (h : OKC C) : OKC (cpC C' C) := by
  obtain ⟨a, h1, h2, B, h3⟩ := h
  exact ⟨a, rel_cp h1, h2, B, relE_cp h3⟩
theorem try_rel {d : Int32} {C C' : CS} {M : ARR} {v : Int32} (h : RelD d C (M 0)) (g : Nat → Int32) : RelD d (sC (sC (cpC C' C) 4 9 0) 4 7 v) (sA (sA (sR M 2 g) 0 39 v) 0 41 0 0) := by
  have h1 := rel_put (C := cpC C' C) (M := M) 9 41 (v := 0) (w := 0) (rel_cp h) (by decide) (by decide) rfl
  have h2 := rel_put (C := sC (cpC C' C) 4 9 0) (M := sA M 0 41 0) 7 39 (v := v) (w := v) h1 (by decide) (by decide) rfl
  refine rel_a h2 (fun j _ => ?_)
  by_cases q1 : j = 39
  · subst q1; rw [sA_ne _ _ _ _ (by decide), sA_e, sA_e]
  · by_cases q2 : j = 41
    · subst q2; rw [sA_e, sA_ne _ _ _ _ (by decide), sA_e]
    · rw [sA_ne _ _ _ _ q2, sA_ne _ _ _ _ q1, sA_ne _ _ _ _ q1, sA_ne _ _ _ _ q2, sR_o _ _ _ (by decide)]
theorem try_E {B : Nat} {C C' : CS} {M : ARR} {v : Int32} (h : RelE B C (M 0)) (g : Nat → Int32) : RelE B (sC (sC (cpC C' C) 4 9 0) 4 7 v) (sA (sA (sR M 2 g) 0 39 v) 0 41 0 0) :=
  relE_c h rfl (by rw [sA_ne _ _ _ _ (by decide), sA_ne _ _ _ _ (by decide), sR_o _ _ _ (by decide)]) (by rw [sA_ne _ _ _ _ (by decide), sA_ne _ _ _ _ (by decide), sR_o _ _ _ (by decide)])
theorem OKC_try {C : CS} {v : Int32} (h : OKC C) (hv : bn 500 1200 v) (C' : CS) : OKC (sC (sC (cpC C' C) 4 9 0) 4 7 v) := by
  obtain ⟨a, h1, h2, B, h3⟩ := h
  exact ⟨_, try_rel (M := fun _ => a) h1 a, IA_tr (M := fun _ => a) h2 hv a, B, try_E (M := fun _ => a) h3 a⟩
theorem OKC_stepN : ∀ (n : Nat) (C : CS), OKC C → OKC (stepN n C)
  | 0, _, h => h
  | n + 1, _, h => OKC_stepN n _ (OKC_step h)
theorem runs_stepN {K : Nat} (hK : K ≤ 2000) (C : CS) : F_C_runCycles C (nI K) = stepN K C := runC_stepN (K := K) (by omega) rfl 2001 0 C 0 rfl (by omega) (by omega)
theorem OKC_runs {C : CS} {a : Int32} (h : OKC C) (ha : bn 1 2000 a) : OKC (F_C_runCycles C a) := by
  obtain ⟨K, _, h2, rfl⟩ := ha
  rw [runs_stepN h2]
  exact OKC_stepN K C h
theorem tryC_eq (S : SLS) (v c : Int32) : F_S_tryCycles S v c = sSC (sSC (sSC (sSC S 2 (cpC (S.1 2) (S.1 0))) 2 (sC (cpC (S.1 2) (S.1 0)) 4 9 0)) 2 (sC (sC (cpC (S.1 2) (S.1 0)) 4 9 0) 4 7 v)) 2 (F_C_runCycles (sC (sC (cpC (S.1 2) (S.1 0)) 4 9 0) 4 7 v) c) := by
  unfold F_S_tryCycles
  simp only [sSC_e]
theorem tryC_2 (S : SLS) (v c : Int32) : (F_S_tryCycles S v c).1 2 = F_C_runCycles (sC (sC (cpC (S.1 2) (S.1 0)) 4 9 0) 4 7 v) c := by rw [tryC_eq, sSC_e]
theorem tryC_o (S : SLS) (v c : Int32) {i : Nat} (h : i ≠ 2) : (F_S_tryCycles S v c).1 i = S.1 i := by rw [tryC_eq, sSC_ne _ _ h, sSC_ne _ _ h, sSC_ne _ _ h, sSC_ne _ _ h]
theorem tryC_s (S : SLS) (v c : Int32) : (F_S_tryCycles S v c).2 = S.2 := rfl
theorem OKS_try {S : SLS} {v c : Int32} (h : OKS S) (hv : bn 500 1200 v) (hc : bn 1 2000 c) : OKS (F_S_tryCycles S v c) := by
  refine ⟨by rw [tryC_o _ _ _ (by decide)]; exact h.o, fun i hi => ?_, h.h, h.t, h.k⟩
  by_cases q : i = 2
  · subst q
    rw [tryC_2]
    exact (OKC_runs (OKC_try h.o hv _) hc).g
  · rw [tryC_o _ _ _ q]; exact h.b i hi
theorem vin_17 {x : Int32} (h : bn 17 23 x) : vp_in (x - (17 : Int32)) 7 := by
  obtain ⟨k, h1, h2, rfl⟩ := h
  rw [show nI k - (17 : Int32) = nI (k - 17) from pk_sub (a := k) (b := 17) h1]
  exact vp_in_nI (by omega) (by omega)
