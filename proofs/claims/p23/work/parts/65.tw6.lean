/-! a workload is typed in both, and taken -/
def At (T : ARR) (i : Nat) (r : List Nat) : Prop := T 2 1 = nI (i + r.length) ∧ i + r.length ≤ 60 ∧ ∀ (j c : Nat), r[j]? = some c → T 0 (i + j) = nI c
theorem At.hd {T : ARR} {i c : Nat} {r : List Nat} (h : At T i (c :: r)) : T 0 i = nI c := h.2.2 0 c rfl
theorem At.tl {T : ARR} {i c : Nat} {r : List Nat} (h : At T i (c :: r)) : At T (i + 1) r := by
  obtain ⟨h1, h2, h3⟩ := h
  rw [List.length_cons] at h1 h2
  refine ⟨by rw [h1]; congr 1; omega, by omega, fun j c' hj => ?_⟩
  have := h3 (j + 1) c' (by rw [List.getElem?_cons_succ]; exact hj)
  rw [show i + 1 + j = i + (j + 1) by omega]
  exact this
theorem At.s1 {T : ARR} {i : Nat} {r : List Nat} (h : At T i r) (k : Nat) (v : Int32) : At (sA T 1 k v) i r := by
  obtain ⟨h1, h2, h3⟩ := h
  refine ⟨by rw [sA_o _ _ _ _ (by decide)]; exact h1, h2, fun j c hj => by rw [sA_o _ _ _ _ (by decide)]; exact h3 j c hj⟩
theorem At.s23 {T : ARR} {i : Nat} {r : List Nat} (h : At T i r) (v : Int32) : At (sA T 2 3 v) i r := by
  obtain ⟨h1, h2, h3⟩ := h
  refine ⟨by rw [sA_ne _ _ _ _ (by decide)]; exact h1, h2, fun j c hj => by rw [sA_o _ _ _ _ (by decide)]; exact h3 j c hj⟩
theorem At.lt {T : ARR} {i c : Nat} {r : List Nat} (h : At T i (c :: r)) : i < 60 ∧ ¬ T 2 1 ≤ nI i := by
  obtain ⟨h1, h2, h3⟩ := h
  rw [List.length_cons] at h1 h2
  exact ⟨by omega, by rw [h1]; exact nI_ge (by omega) (by omega)⟩
theorem rd_comma {T : ARR} {i m : Nat} {r : List Nat} {x : Int32} (h : At T i (44 :: r)) (hx : ¬ x = (-1 : Int32)) (hm : T 2 3 = nI m) (m16 : m < 16) (n : Nat) : L_T_read_16 (n + 1) x (nI i) T = L_T_read_16 n (-1 : Int32) (nI (i + 1)) (sA (sA T 1 m 0) 2 3 (nI (m + 1))) := by
  obtain ⟨hi, hle⟩ := h.lt
  simp only [L_T_read_16]
  rw [if_neg hle, nI_clamp (show i < 2 ^ 31 by omega), h.hd, if_pos (show nI 44 = (44 : Int32) from rfl), if_neg hx, hm, if_neg (show ¬ (16 : Int32) ≤ nI m from nI_ge (b := 16) m16 (by omega)), nI_clamp (show m < 2 ^ 31 by omega), sA_o _ _ _ _ (show 2 ≠ 1 by decide), hm, nI_1, nI_1]
theorem rd_dash {T : ARR} {i : Nat} {r : List Nat} (h : At T i (45 :: r)) (n : Nat) : L_T_read_16 (n + 1) (-1 : Int32) (nI i) T = L_T_read_16 n (8 : Int32) (nI (i + 1)) T := by
  obtain ⟨hi, hle⟩ := h.lt
  simp only [L_T_read_16]
  rw [if_neg hle, nI_clamp (show i < 2 ^ 31 by omega), h.hd, if_neg (show ¬ nI 45 = (44 : Int32) by decide), if_pos (show nI 45 = (45 : Int32) from rfl), if_pos trivial, nI_1]
theorem rd_digit {T : ARR} {i m d : Nat} {r : List Nat} {x : Int32} (h : At T i ((48 + d) :: r)) (hd : d ≤ 2) (hx : ¬ nI d ≤ x) (hm : T 2 3 = nI m) (m1 : 1 ≤ m) (m16 : m ≤ 16) (n : Nat) : L_T_read_16 (n + 1) x (nI i) T = L_T_read_16 n (nI d) (nI (i + 1)) (sA T 1 (m - 1) (T 1 (m - 1) ||| ((1 : Int32) <<< (nI d &&& 31)))) := by
  obtain ⟨hi, hle⟩ := h.lt
  have e48 : nI (48 + d) - (48 : Int32) = nI d := by rw [show nI (48 + d) - (48 : Int32) = nI (48 + d - 48) from pk_sub (b := 48) (by omega), Nat.add_sub_cancel_left]
  have em : nI m - (1 : Int32) = nI (m - 1) := pk_sub (b := 1) m1
  have n44 : ¬ nI (48 + d) = (44 : Int32) := fun q => absurd ((nI_eq (a := 48 + d) (b := 44) (by omega) (by omega)).mp q) (by omega)
  have n45 : ¬ nI (48 + d) = (45 : Int32) := fun q => absurd ((nI_eq (a := 48 + d) (b := 45) (by omega) (by omega)).mp q) (by omega)
  simp only [L_T_read_16]
  rw [if_neg hle, nI_clamp (show i < 2 ^ 31 by omega), h.hd, if_neg n44, if_neg n45, if_neg (show ¬ nI (48 + d) < (48 : Int32) from nI_nlt (b := 48) (by omega) (by omega)), if_neg (show ¬ (55 : Int32) < nI (48 + d) from nI_nlt (a := 55) (by omega) (by omega)), e48, if_neg hx, hm, em, nI_clamp (show m - 1 < 2 ^ 31 by omega), nI_1]
theorem rd_end {T : ARR} {i : Nat} (h : At T i []) (n : Nat) {x : Int32} (hx : ¬ x = (-1 : Int32)) : L_T_read_16 (n + 1) x (nI i) T = ((-1 : Int32), T) := by
  obtain ⟨h1, h2, -⟩ := h
  simp only [L_T_read_16]
  rw [h1, if_pos (nI_le (by simp) (by simp at h2 ⊢; omega)), if_neg hx]
/-- a digit more of a set -/
theorem dg {T : ARR} {i m d b b' : Nat} {r : List Nat} {x : Int32} (h : At T i ((48 + d) :: r)) (hd : d ≤ 2) (hx : ¬ nI d ≤ x) (hm : T 2 3 = nI m) (m1 : 1 ≤ m) (m16 : m ≤ 16) (hb : T 1 (m - 1) = nI b) (hb' : nI b ||| ((1 : Int32) <<< (nI d &&& 31)) = nI b') :
    ∃ T' : ARR, (∀ n, L_T_read_16 (n + 1) x (nI i) T = L_T_read_16 n (nI d) (nI (i + 1)) T') ∧ At T' (i + 1) r ∧ T' 2 3 = nI m ∧ T' 1 (m - 1) = nI b' ∧ ∀ j, j ≠ m - 1 → T' 1 j = T 1 j :=
  ⟨_, fun n => rd_digit h hd hx hm m1 m16 n, h.tl.s1 _ _, by rw [sA_o _ _ _ _ (by decide)]; exact hm, by rw [sA_e, hb, hb'], fun j hj => sA_ne _ _ _ _ hj⟩
def enc (s : Nat) : List Nat := [[45], [48], [49], [48, 49], [50], [48, 50], [49, 50], [48, 49, 50]].getD s []
theorem enc_len : ∀ s : Nat, s < 8 → 1 ≤ (enc s).length ∧ (enc s).length ≤ 3 := by decide
theorem nm1 : ∀ d : Nat, d < 3 → (¬ nI d = (-1 : Int32)) ∧ ¬ nI d ≤ (-1 : Int32) := by decide +kernel
/-- a set is read -/
theorem rd_block {s : Nat} (hs : s < 8) {T : ARR} {i m : Nat} {r : List Nat} (h : At T i (enc s ++ r)) (hm : T 2 3 = nI m) (m1 : 1 ≤ m) (m16 : m ≤ 16) (hb : T 1 (m - 1) = nI 0) :
    ∃ (T' : ARR) (x : Int32), (∀ n, L_T_read_16 (n + (enc s).length) (-1 : Int32) (nI i) T = L_T_read_16 n x (nI (i + (enc s).length)) T') ∧ ¬ x = (-1 : Int32) ∧ At T' (i + (enc s).length) r ∧ T' 2 3 = nI m ∧ T' 1 (m - 1) = nI s ∧ ∀ j, j ≠ m - 1 → T' 1 j = T 1 j := by
  match s, hs with
  | 0, _ =>
    have h : At T i (45 :: r) := h
    exact ⟨T, 8, fun n => rd_dash h n, by decide, h.tl, hm, hb, fun _ _ => rfl⟩
  | 1, _ =>
    have h : At T i ((48 + 0) :: r) := h
    obtain ⟨T1, a1, a2, a3, a4, a5⟩ := dg h (by omega) (nm1 0 (by omega)).2 hm m1 m16 hb (b' := 1) (by decide +kernel)
    exact ⟨T1, nI 0, a1, (nm1 0 (by omega)).1, a2, a3, a4, a5⟩
  | 2, _ =>
    have h : At T i ((48 + 1) :: r) := h
    obtain ⟨T1, a1, a2, a3, a4, a5⟩ := dg h (by omega) (nm1 1 (by omega)).2 hm m1 m16 hb (b' := 2) (by decide +kernel)
    exact ⟨T1, nI 1, a1, (nm1 1 (by omega)).1, a2, a3, a4, a5⟩
  | 3, _ =>
    have h : At T i ((48 + 0) :: (48 + 1) :: r) := h
    obtain ⟨T1, a1, a2, a3, a4, a5⟩ := dg h (by omega) (nm1 0 (by omega)).2 hm m1 m16 hb (b' := 1) (by decide +kernel)
    obtain ⟨T2, b1, b2, b3, b4, b5⟩ := dg a2 (by omega) (x := nI 0) (by decide +kernel) a3 m1 m16 a4 (b' := 3) (by decide +kernel)
    exact ⟨T2, nI 1, fun n => (a1 (n + 1)).trans (b1 n), (nm1 1 (by omega)).1, b2, b3, b4, fun j hj => (b5 j hj).trans (a5 j hj)⟩
  | 4, _ =>
    have h : At T i ((48 + 2) :: r) := h
    obtain ⟨T1, a1, a2, a3, a4, a5⟩ := dg h (by omega) (nm1 2 (by omega)).2 hm m1 m16 hb (b' := 4) (by decide +kernel)
    exact ⟨T1, nI 2, a1, (nm1 2 (by omega)).1, a2, a3, a4, a5⟩
  | 5, _ =>
    have h : At T i ((48 + 0) :: (48 + 2) :: r) := h
    obtain ⟨T1, a1, a2, a3, a4, a5⟩ := dg h (by omega) (nm1 0 (by omega)).2 hm m1 m16 hb (b' := 1) (by decide +kernel)
    obtain ⟨T2, b1, b2, b3, b4, b5⟩ := dg a2 (by omega) (x := nI 0) (by decide +kernel) a3 m1 m16 a4 (b' := 5) (by decide +kernel)
    exact ⟨T2, nI 2, fun n => (a1 (n + 1)).trans (b1 n), (nm1 2 (by omega)).1, b2, b3, b4, fun j hj => (b5 j hj).trans (a5 j hj)⟩
  | 6, _ =>
    have h : At T i ((48 + 1) :: (48 + 2) :: r) := h
    obtain ⟨T1, a1, a2, a3, a4, a5⟩ := dg h (by omega) (nm1 1 (by omega)).2 hm m1 m16 hb (b' := 2) (by decide +kernel)
    obtain ⟨T2, b1, b2, b3, b4, b5⟩ := dg a2 (by omega) (x := nI 1) (by decide +kernel) a3 m1 m16 a4 (b' := 6) (by decide +kernel)
    exact ⟨T2, nI 2, fun n => (a1 (n + 1)).trans (b1 n), (nm1 2 (by omega)).1, b2, b3, b4, fun j hj => (b5 j hj).trans (a5 j hj)⟩
  | 7, _ =>
    have h : At T i ((48 + 0) :: (48 + 1) :: (48 + 2) :: r) := h
    obtain ⟨T1, a1, a2, a3, a4, a5⟩ := dg h (by omega) (nm1 0 (by omega)).2 hm m1 m16 hb (b' := 1) (by decide +kernel)
    obtain ⟨T2, b1, b2, b3, b4, b5⟩ := dg a2 (by omega) (x := nI 0) (by decide +kernel) a3 m1 m16 a4 (b' := 3) (by decide +kernel)
    obtain ⟨T3, c1, c2, c3, c4, c5⟩ := dg b2 (by omega) (x := nI 1) (by decide +kernel) b3 m1 m16 b4 (b' := 7) (by decide +kernel)
    exact ⟨T3, nI 2, fun n => (a1 (n + 2)).trans ((b1 (n + 1)).trans (c1 n)), (nm1 2 (by omega)).1, c2, c3, c4, fun j hj => (c5 j hj).trans ((b5 j hj).trans (a5 j hj))⟩
def restL : List Nat → List Nat
  | [] => []
  | s :: ss => 44 :: (enc s ++ restL ss)
def txt : List Nat → List Nat
  | [] => []
  | s :: ss => enc s ++ restL ss
theorem restL_app (l : List Nat) (s : Nat) : restL (l ++ [s]) = restL l ++ (44 :: enc s) := by
  induction l with
  | nil => simp [restL]
  | cons a l ih => simp [restL, ih]
theorem txt_app (l : List Nat) (s : Nat) : txt (l ++ [s]) = txt l ++ ((if l.length = 0 then [] else [44]) ++ enc s) := by
  cases l with
  | nil => simp [txt, restL]
  | cons a l => simp [txt, restL_app]
theorem rd_rest : ∀ (ss : List Nat) (T : ARR) (i m : Nat) (x : Int32) (n : Nat), (∀ s ∈ ss, s < 8) → ¬ x = (-1 : Int32) → At T i (restL ss) → T 2 3 = nI m → 1 ≤ m → m + ss.length ≤ 16 → (restL ss).length + 1 ≤ n →
    ∃ T' : ARR, L_T_read_16 n x (nI i) T = ((-1 : Int32), T') ∧ T' 2 3 = nI (m + ss.length) ∧ (∀ j, j < m → T' 1 j = T 1 j) ∧ ∀ (j s : Nat), ss[j]? = some s → T' 1 (m + j) = nI s
  | [], T, i, m, x, n, _, hx, h, hm, _, _, hn => by
    obtain ⟨k, rfl⟩ : ∃ k, n = k + 1 := ⟨n - 1, by simp [restL] at hn; omega⟩
    exact ⟨T, rd_end h k hx, hm, fun _ _ => rfl, fun j s hj => by simp at hj⟩
  | s :: ss, T, i, m, x, n, hs, hx, h, hm, m1, m16, hn => by
    have h : At T i (44 :: (enc s ++ restL ss)) := h
    have hn : (44 :: (enc s ++ restL ss)).length + 1 ≤ n := hn
    rw [List.length_cons, List.length_append] at hn
    rw [List.length_cons] at m16
    obtain ⟨k, rfl⟩ : ∃ k, n = (k + (enc s).length) + 1 := ⟨n - 1 - (enc s).length, by omega⟩
    have hs0 : s < 8 := hs s List.mem_cons_self
    have h2 : At (sA (sA T 1 m 0) 2 3 (nI (m + 1))) (i + 1) (enc s ++ restL ss) := (h.tl.s1 m 0).s23 _
    obtain ⟨T1, y, a1, a2, a3, a4, a5, a6⟩ := rd_block hs0 h2 (m := m + 1) (by rw [sA_e]) (by omega) (by omega) (by rw [sA_o _ _ _ _ (by decide), Nat.add_sub_cancel, sA_e]; rfl)
    rw [Nat.add_sub_cancel] at a5 a6
    obtain ⟨T', b1, b2, b3, b4⟩ := rd_rest ss T1 (i + 1 + (enc s).length) (m + 1) y k (fun q hq => hs q (List.mem_cons_of_mem _ hq)) a2 a3 a4 (by omega) (by omega) (by omega)
    refine ⟨T', ?_, ?_, fun j hj => ?_, fun j q hj => ?_⟩
    · rw [rd_comma h hx hm (by omega), a1 k, b1]
    · rw [b2, List.length_cons]; congr 1; omega
    · rw [b3 j (by omega), a6 j (by omega), sA_o _ _ _ _ (by decide), sA_ne _ _ _ _ (by omega)]
    · cases j with
      | zero =>
        have e : s = q := by simpa using hj
        rw [Nat.add_zero, b3 m (by omega), a5, e]
      | succ j =>
        rw [List.getElem?_cons_succ] at hj
        have := b4 j q hj
        rw [show m + (j + 1) = m + 1 + j by omega]; exact this
theorem read_txt {T : ARR} {s : Nat} {ss : List Nat} (h : At T 0 (txt (s :: ss))) (hs : ∀ q ∈ s :: ss, q < 8) (hl : ss.length + 1 ≤ 16) :
    ∃ T' : ARR, F_T_read T = ((-1 : Int32), T') ∧ T' 2 3 = nI ((s :: ss).length) ∧ ∀ (j q : Nat), (s :: ss)[j]? = some q → T' 1 j = nI q := by
  have h : At T 0 (enc s ++ restL ss) := h
  have hlen := h.2.1
  rw [List.length_append] at hlen
  have h2 : At (sA (sA T 1 0 0) 2 3 (nI 1)) 0 (enc s ++ restL ss) := (h.s1 0 0).s23 _
  obtain ⟨T1, y, a1, a2, a3, a4, a5, a6⟩ := rd_block (hs s List.mem_cons_self) h2 (m := 1) (by rw [sA_e]) (by omega) (by omega) (by rw [sA_o _ _ _ _ (by decide), sA_e]; rfl)
  obtain ⟨T', b1, b2, b3, b4⟩ := rd_rest ss T1 (0 + (enc s).length) 1 y (61 - (enc s).length) (fun q hq => hs q (List.mem_cons_of_mem _ hq)) a2 a3 a4 (by omega) (by omega) (by omega)
  refine ⟨T', ?_, ?_, fun j q hj => ?_⟩
  · show L_T_read_16 61 (-1 : Int32) (nI 0) (sA (sA T 1 0 0) 2 3 (nI 1)) = _
    have e := a1 (61 - (enc s).length)
    rw [show 61 - (enc s).length + (enc s).length = 61 by omega] at e
    rw [e, b1]
  · rw [b2, List.length_cons]; congr 1; omega
  · cases j with
    | zero =>
      have e : s = q := by simpa using hj
      rw [b3 0 (by omega), ← e]; exact a5
    | succ j =>
      rw [List.getElem?_cons_succ] at hj
      rw [Nat.add_comm]; exact b4 j q hj
/-! typing -/
theorem type_eq {S : SLS} {t : Nat} (ht : S.2.1 2 1 = nI t) (t60 : t < 60) (c : Int32) : F_S_type S c = (nI (t + 1), sT S (sA (sA S.2.1 0 t c) 2 1 (nI (t + 1)))) := by
  unfold F_S_type F_T_append
  dsimp only
  rw [ht, if_pos (show nI t < (60 : Int32) from nI_lt (b := 60) t60 (by omega)), nI_clamp (show t < 2 ^ 31 by omega), sA_o _ _ _ _ (show 2 ≠ 0 by decide), ht, nI_1]
  dsimp only
  rw [if_neg (show ¬ (1 : Int32) = 0 by decide), sT_T, sA_e]
theorem At.app {T : ARR} {cs : List Nat} (h : At T 0 cs) (hl : cs.length < 60) (c : Nat) : At (sA (sA T 0 cs.length (nI c)) 2 1 (nI (cs.length + 1))) 0 (cs ++ [c]) := by
  obtain ⟨h1, h2, h3⟩ := h
  refine ⟨by rw [sA_e, List.length_append]; congr 1; simp, by rw [List.length_append]; simp; omega, fun j q hj => ?_⟩
  rw [sA_o _ _ _ _ (by decide), Nat.zero_add]
  rw [List.getElem?_append] at hj
  by_cases k : j < cs.length
  · rw [if_pos k] at hj
    rw [sA_ne _ _ _ _ (by omega)]
    have := h3 j q hj
    rw [Nat.zero_add] at this
    exact this
  · rw [if_neg k] at hj
    have k2 : j - cs.length = 0 := by
      rcases Nat.eq_zero_or_pos (j - cs.length) with z | z
      · exact z
      · rw [List.getElem?_eq_none (by simp; omega)] at hj; cases hj
    rw [k2] at hj
    have e : c = q := by simpa using hj
    rw [show j = cs.length by omega, sA_e, e]
def YV (C C' : Nat → CS) (cs : List Nat) (V : LW) : Prop := ROK V.1 ∧ ROK V.2.1 ∧ V.1.1 = C ∧ V.2.1.1 = C' ∧ V.2.1.2.1 = V.1.2.1 ∧ At V.1.2.1 0 cs
theorem typ2 {C C' : Nat → CS} {cs : List Nat} {V : LW} (h : YV C C' cs V) (hl : cs.length < 60) {c : Nat} (hc : c < 65536) (f : Nat → Int32) : (F_S_type V.1 (nI c)).1 = (F_S_type V.2.1 (nI c)).1 ∧ YV C C' (cs ++ [c]) ((F_S_type V.1 (nI c)).2, (F_S_type V.2.1 (nI c)).2, f) := by
  obtain ⟨h1, h2, h3, h4, h5, h6⟩ := h
  have r1 := h1.type (bn_c c (lo := 0) (hi := 65535) (by omega) (by omega))
  have r2 := h2.type (bn_c c (lo := 0) (hi := 65535) (by omega) (by omega))
  have t1 : V.1.2.1 2 1 = nI cs.length := by rw [h6.1, Nat.zero_add]
  have e1 := type_eq t1 hl (nI c)
  have e2 := type_eq (S := V.2.1) (by rw [h5]; exact t1) hl (nI c)
  rw [e1] at r1 ⊢
  rw [e2] at r2 ⊢
  refine ⟨rfl, r1, r2, h3, h4, ?_, h6.app hl c⟩
  show sA (sA V.2.1.2.1 0 cs.length (nI c)) 2 1 (nI (cs.length + 1)) = _
  rw [h5]
  rfl
def dg1 (s j : Nat) : List Nat := if ((nI s >>> (nI j &&& 31)) &&& (1 : Int32)) = 0 then [] else [48 + j]
theorem ch_j : ∀ j : Nat, j < 3 → ((((48 : Int32) + nI j).toUInt32 % 65536).toInt32) = nI (48 + j) := by decide +kernel
theorem st260 {C C' : Nat → CS} {cs : List Nat} {V : LW} (h : YV C C' cs V) (hl : cs.length < 60) (s : Nat) (j : Nat) (hj : j < 3) (n : Nat) : ∃ V' : LW, L_L_isStep_260 (nI s) (n + 1) (1 : Int32) (nI j) V = L_L_isStep_260 (nI s) n (1 : Int32) (nI (j + 1)) V' ∧ YV C C' (cs ++ dg1 s j) V' ∧ V'.2.2 = V.2.2 := by
  unfold dg1
  simp only [L_L_isStep_260]
  rw [if_neg (show ¬ (3 : Int32) ≤ nI j from nI_ge (b := 3) hj (by omega)), if_neg (show ¬ (1 : Int32) = 0 by decide), ch_j j hj, nI_1]
  by_cases b : ((nI s >>> (nI j &&& 31)) &&& (1 : Int32)) = 0
  · rw [if_pos b, if_pos b]
    exact ⟨V, rfl, by rw [List.append_nil]; exact h, rfl⟩
  · rw [if_neg b, if_neg b]
    obtain ⟨e1, e2⟩ := typ2 h hl (c := 48 + j) (by omega) V.2.2
    rw [if_pos e1]
    exact ⟨_, rfl, e2, rfl⟩
theorem dg1_len (s j : Nat) : (dg1 s j).length ≤ 1 := by
  unfold dg1
  split <;> simp
theorem all260 {C C' : Nat → CS} {cs : List Nat} {V : LW} (h : YV C C' cs V) (hl : cs.length + 3 ≤ 60) (s : Nat) : ∃ V' : LW, L_L_isStep_260 (nI s) 4 (1 : Int32) (0 : Int32) V = ((1 : Int32), V') ∧ YV C C' (cs ++ (dg1 s 0 ++ (dg1 s 1 ++ dg1 s 2))) V' ∧ V'.2.2 = V.2.2 := by
  have l0 := dg1_len s 0
  have l1 := dg1_len s 1
  obtain ⟨V1, a1, a2, a3⟩ := st260 h (by omega) s 0 (by omega) 3
  obtain ⟨V2, b1, b2, b3⟩ := st260 a2 (by rw [List.length_append]; omega) s 1 (by omega) 2
  obtain ⟨V3, c1, c2, c3⟩ := st260 b2 (by rw [List.length_append, List.length_append]; omega) s 2 (by omega) 1
  refine ⟨V3, ?_, by rw [← List.append_assoc, ← List.append_assoc]; exact c2, c3.trans (b3.trans a3)⟩
  show L_L_isStep_260 (nI s) (3 + 1) (1 : Int32) (nI 0) V = _
  rw [a1, b1, c1]
  simp only [L_L_isStep_260]
  rw [if_pos (show (3 : Int32) ≤ nI (2 + 1) by decide)]
theorem enc_eq : ∀ s : Nat, s < 8 → enc s = (if s = 0 then [45] else []) ++ (dg1 s 0 ++ (dg1 s 1 ++ dg1 s 2)) := by decide +kernel
/-- the characters ahead of a set's digits -/
theorem pre255 {C C' : Nat → CS} {cs : List Nat} {V : LW} (h : YV C C' cs V) (hl : cs.length + 2 ≤ 60) {s k : Nat} (hs : s < 8) (hk : k < 6) :
    ∃ V' : LW, (if nI k = (0 : Int32) then (if (0 : Int32) < nI s then ((1 : Int32), V) else (if (F_S_type V.1 (45 : Int32)).1 = (F_S_type V.2.1 (45 : Int32)).1 then ((1 : Int32), ((F_S_type V.1 (45 : Int32)).2, (F_S_type V.2.1 (45 : Int32)).2, V.2.2)) else ((0 : Int32), ((F_S_type V.1 (45 : Int32)).2, (F_S_type V.2.1 (45 : Int32)).2, V.2.2))))
      else (if (F_S_type V.1 (44 : Int32)).1 = (F_S_type V.2.1 (44 : Int32)).1 then (if (0 : Int32) < nI s then ((1 : Int32), ((F_S_type V.1 (44 : Int32)).2, (F_S_type V.2.1 (44 : Int32)).2, V.2.2)) else (if (F_S_type (F_S_type V.1 (44 : Int32)).2 (45 : Int32)).1 = (F_S_type (F_S_type V.2.1 (44 : Int32)).2 (45 : Int32)).1 then ((1 : Int32), ((F_S_type (F_S_type V.1 (44 : Int32)).2 (45 : Int32)).2, (F_S_type (F_S_type V.2.1 (44 : Int32)).2 (45 : Int32)).2, V.2.2)) else ((0 : Int32), ((F_S_type (F_S_type V.1 (44 : Int32)).2 (45 : Int32)).2, (F_S_type (F_S_type V.2.1 (44 : Int32)).2 (45 : Int32)).2, V.2.2)))) else ((0 : Int32), ((F_S_type V.1 (44 : Int32)).2, (F_S_type V.2.1 (44 : Int32)).2, V.2.2)))) = (((1 : Int32), V') : Int32 × LW) ∧ YV C C' (cs ++ ((if k = 0 then [] else [44]) ++ (if s = 0 then [45] else []))) V' ∧ V'.2.2 = V.2.2 := by
  have hs0 : (0 : Int32) < nI s ↔ ¬ s = 0 := by
    constructor
    · intro q z; subst z; exact absurd q (by decide)
    · intro q; exact nI_lt (a := 0) (by omega) (by omega)
  by_cases ck : k = 0
  · subst ck
    rw [if_pos (show nI 0 = (0 : Int32) from rfl), if_pos rfl]
    by_cases c0 : s = 0
    · rw [if_neg (fun q => hs0.mp q c0), if_pos c0]
      obtain ⟨e1, e2⟩ := typ2 h (by omega) (c := 45) (by omega) V.2.2
      rw [if_pos (show (F_S_type V.1 (45 : Int32)).1 = (F_S_type V.2.1 (45 : Int32)).1 from e1)]
      exact ⟨_, rfl, e2, rfl⟩
    · rw [if_pos (hs0.mpr c0), if_neg c0]
      exact ⟨V, rfl, by rw [List.append_nil, List.append_nil]; exact h, rfl⟩
  · rw [if_neg (show ¬ nI k = (0 : Int32) from fun q => ck ((nI_eq (a := k) (b := 0) (by omega) (by omega)).mp q)), if_neg ck]
    obtain ⟨e1, e2⟩ := typ2 h (by omega) (c := 44) (by omega) V.2.2
    rw [if_pos (show (F_S_type V.1 (44 : Int32)).1 = (F_S_type V.2.1 (44 : Int32)).1 from e1)]
    by_cases c0 : s = 0
    · rw [if_neg (fun q => hs0.mp q c0), if_pos c0]
      obtain ⟨f1, f2⟩ := typ2 e2 (by rw [List.length_append]; simp; omega) (c := 45) (by omega) V.2.2
      rw [if_pos (show (F_S_type (F_S_type V.1 (44 : Int32)).2 (45 : Int32)).1 = (F_S_type (F_S_type V.2.1 (44 : Int32)).2 (45 : Int32)).1 from f1)]
      exact ⟨_, rfl, by rw [← List.append_assoc]; exact f2, rfl⟩
    · rw [if_pos (hs0.mpr c0), if_neg c0]
      exact ⟨_, rfl, by rw [List.append_nil]; exact e2, rfl⟩
theorem all184 {C C' : Nat → CS} (y : Int32) {K : Nat} (k6 : K ≤ 6) : ∀ (n k : Nat) (ss : List Nat) (V : LW), ss.length = k → k ≤ K → K + 1 ≤ k + n → (∀ s ∈ ss, s < 8) → (txt ss).length ≤ 4 * k → YV C C' (txt ss) V → (∀ (j s : Nat), ss[j]? = some s → V.2.2 j = nI s) →
    ∃ (ss' : List Nat) (V' : LW), L_L_isStep_184 y (nI K) n (1 : Int32) (nI k) V = ((1 : Int32), V') ∧ ss'.length = K ∧ (∀ s ∈ ss', s < 8) ∧ YV C C' (txt ss') V' ∧ ∀ (j s : Nat), ss'[j]? = some s → V'.2.2 j = nI s
  | 0, k, _, _, _, h1, h2, _, _, _, _ => absurd h2 (by omega)
  | n + 1, k, ss, V, hk, h1, h2, hs, hl, h, hf => by
    simp only [L_L_isStep_184]
    by_cases c : K ≤ k
    · rw [if_pos (nI_le c (by omega))]
      exact ⟨ss, V, rfl, by omega, hs, h, hf⟩
    · rw [if_neg (nI_ge (by omega) (by omega)), if_neg (show ¬ (1 : Int32) = 0 by decide)]
      obtain ⟨s, _, hs8, es⟩ := up_bn 8 (by omega) (by omega) (y >>> (((2 : Int32) * nI k) &&& 31))
      have es : F_L_up (y >>> (((2 : Int32) * nI k) &&& 31)) (8 : Int32) = nI s := es
      have hs8 : s < 8 := by omega
      rw [es]
      obtain ⟨V1, a1, a2, a3⟩ := pre255 h (by omega) hs8 (show k < 6 by omega)
      rw [a1]
      obtain ⟨V2, b1, b2, b3⟩ := all260 a2 (by
        rw [List.length_append, List.length_append]
        have q1 : (if k = 0 then [] else [44] : List Nat).length ≤ 1 := by split <;> simp
        have q2 : (if s = 0 then [45] else [] : List Nat).length ≤ 1 := by split <;> simp
        omega) s
      dsimp only
      rw [b1]
      dsimp only
      have et : (txt ss ++ ((if k = 0 then [] else [44]) ++ (if s = 0 then [45] else []))) ++ (dg1 s 0 ++ (dg1 s 1 ++ dg1 s 2)) = txt (ss ++ [s]) := by
        rw [txt_app, hk, enc_eq s hs8, List.append_assoc, List.append_assoc]
      rw [et] at b2
      rw [nI_clamp (show k < 2 ^ 31 by omega), nI_1]
      obtain ⟨c1, c2, c3, c4, c5, c6⟩ := b2
      refine all184 y k6 n (k + 1) (ss ++ [s]) (V2.1, V2.2.1, upd V2.2.2 k (nI s)) (by rw [List.length_append]; simp; omega) (by omega) (by omega) ?_ ?_ ⟨c1, c2, c3, c4, c5, c6⟩ ?_
      · intro q hq
        rcases List.mem_append.mp hq with z | z
        · exact hs q z
        · rw [List.mem_singleton.mp z]; exact hs8
      · rw [txt_app, List.length_append, List.length_append]
        have q1 : (if ss.length = 0 then [] else [44] : List Nat).length ≤ 1 := by split <;> simp
        have := (enc_len s hs8).2
        omega
      · intro j q hj
        show upd V2.2.2 k (nI s) j = nI q
        rw [List.getElem?_append] at hj
        by_cases jk : j < ss.length
        · rw [if_pos jk] at hj
          rw [pk_un (by omega), b3, a3]
          exact hf j q hj
        · rw [if_neg jk] at hj
          have k2 : j - ss.length = 0 := by
            rcases Nat.eq_zero_or_pos (j - ss.length) with z | z
            · exact z
            · rw [List.getElem?_eq_none (by simp; omega)] at hj; cases hj
          rw [k2] at hj
          have e : s = q := by simpa using hj
          rw [show j = k by omega, pk_us, e]
/-! taking -/
def cpW (T : ARR) : Nat → Nat → CS → CS
  | 0, _, C => C
  | n + 1, k, C => cpW T n (k + 1) (sC C 2 k (T 1 k))
theorem cpW_o (T : ARR) : ∀ (n k : Nat) (C : CS) {i : Nat}, i ≠ 2 → (cpW T n k C).1 i = C.1 i
  | 0, _, _, _, _ => rfl
  | n + 1, k, C, i, h => by
    show (cpW T n (k + 1) (sC C 2 k (T 1 k))).1 i = _
    rw [cpW_o T n _ _ h, sC_o _ _ _ _ h]
theorem cpW_2 (T : ARR) : ∀ (n k : Nat) (C : CS) (j : Nat), (cpW T n k C).1 2 j = if k ≤ j ∧ j < k + n then T 1 j else C.1 2 j
  | 0, k, C, j => by rw [if_neg (by omega)]; rfl
  | n + 1, k, C, j => by
    show (cpW T n (k + 1) (sC C 2 k (T 1 k))).1 2 j = _
    rw [cpW_2 T n]
    by_cases c : k + 1 ≤ j ∧ j < k + 1 + n
    · rw [if_pos c, if_pos (by omega)]
    · rw [if_neg c]
      by_cases e : j = k
      · subst e; rw [sC_e, if_pos (by omega)]
      · rw [sC_ne _ _ _ _ e, if_neg (by omega)]
theorem tw_cpW {T : ARR} : ∀ (n k : Nat) (C C' : CS), TWC C C' → (∀ j, k ≤ j → j < k + n → bn 0 7 (T 1 j)) → TWC (cpW T n k C) (cpW T n k C')
  | 0, _, _, _, h, _ => h
  | n + 1, k, C, C', h, ht => tw_cpW n (k + 1) _ _ (tw_wset h k (ht k (by omega) (by omega))) (fun j h1 h2 => ht j (by omega) (by omega))
theorem take66 {K : Nat} (k16 : K ≤ 16) : ∀ (n k : Nat) (S : SLS), k ≤ K → K + 1 ≤ k + n → S.2.1 2 3 = nI K → L_S_takeWorkload_66 n (nI k) S = sSC S 0 (cpW S.2.1 (K - k) k (S.1 0))
  | 0, k, _, h1, h2, _ => absurd h2 (by omega)
  | n + 1, k, S, h1, h2, hm => by
    simp only [L_S_takeWorkload_66]
    rw [hm]
    by_cases c : K ≤ k
    · rw [if_pos (nI_le c (by omega)), show K - k = 0 by omega]
      show (S.1, S.2) = ((fun j => if j = 0 then S.1 0 else S.1 j), S.2)
      congr 1
      funext j
      by_cases q : j = 0
      · subst q; rfl
      · rw [if_neg q]
    · rw [if_neg (nI_ge (by omega) (by omega)), nI_clamp (show k < 2 ^ 31 by omega), nI_1, take66 k16 n (k + 1) (sSC S 0 (sC (S.1 0) 2 k (S.2.1 1 k))) (by omega) (by omega) hm, sSC_e, sSC_SC, sSC_2, show K - k = (K - (k + 1)) + 1 by omega]
      rfl
theorem take20 {S : SLS} {K : Nat} (k1 : 1 ≤ K) (k16 : K ≤ 16) (hm : S.2.1 2 3 = nI K) (hs : ∀ j, j < K → S.2.1 1 j < ((1 : Int32) <<< (((S.1 0).1 4 2) &&& 31))) : ∀ (n k : Nat), k ≤ K → K + 1 ≤ k + n → (L_S_takeWorkload_20 S n (nI k)).1 = nI K ∧ (L_S_takeWorkload_20 S n (nI k)).2.1 0 = F_C_beginWorkload (cpW S.2.1 K 0 (S.1 0)) (nI K) ∧ (L_S_takeWorkload_20 S n (nI k)).2.2.1 = S.2.1
  | 0, k, h1, h2 => absurd h2 (by omega)
  | n + 1, k, h1, h2 => by
    simp only [L_S_takeWorkload_20]
    rw [hm]
    by_cases c : K ≤ k
    · rw [if_pos (nI_le c (by omega))]
      have e : L_S_takeWorkload_66 17 (0 : Int32) (F_S_recordState S) = sSC (F_S_recordState S) 0 (cpW S.2.1 K 0 (S.1 0)) := by
        have := take66 k16 17 0 (F_S_recordState S) (by omega) (by omega) (by rw [rec_T]; exact hm)
        rw [rec_T, rec_1 S (by omega), Nat.sub_zero] at this
        exact this
      rw [e]
      dsimp only
      rw [sSC_e, sSC_e, sSC_2, sSC_2, rec_T, hm]
      exact ⟨rfl, rfl, rfl⟩
    · rw [if_neg (nI_ge (by omega) (by omega)), nI_clamp (show k < 2 ^ 31 by omega), if_pos (hs k (by omega)), nI_1]
      exact take20 k1 k16 hm hs n (k + 1) (by omega) (by omega)
theorem take_txt {S : SLS} {s P : Nat} {ss : List Nat} (h : At S.2.1 0 (txt (s :: ss))) (hs : ∀ q ∈ s :: ss, q < 8) (hl : ss.length + 1 ≤ 16) (hP : (S.1 0).1 4 2 = nI P) (p3 : P = 3 ∨ P = 5) :
    ∃ T' : ARR, F_T_read S.2.1 = ((-1 : Int32), T') ∧ T' 2 3 = nI ((s :: ss).length) ∧ (∀ (j q : Nat), (s :: ss)[j]? = some q → T' 1 j = nI q) ∧ (F_S_takeWorkload S).1 = nI ((s :: ss).length) ∧ (F_S_takeWorkload S).2.1 0 = F_C_beginWorkload (cpW T' (s :: ss).length 0 (S.1 0)) (nI ((s :: ss).length)) ∧ (F_S_takeWorkload S).2.2.1 = T' := by
  obtain ⟨T', a1, a2, a3⟩ := read_txt h hs hl
  have hlt : ∀ q : Nat, q < 8 → nI q < (1 : Int32) <<< (nI 3 &&& 31) ∧ nI q < (1 : Int32) <<< (nI 5 &&& 31) := by decide +kernel
  have h2 := take20 (S := sT S T') (K := (s :: ss).length) (by rw [List.length_cons]; omega) (by rw [List.length_cons]; omega) (by rw [sT_T]; exact a2) (fun j hj => by
    obtain ⟨q, hq⟩ : ∃ q, (s :: ss)[j]? = some q := ⟨_, List.getElem?_eq_getElem hj⟩
    have h8 : q < 8 := hs q (List.mem_of_getElem? hq)
    rw [sT_T, a3 j q hq, sT_1, hP]
    rcases p3 with rfl | rfl
    · exact (hlt q h8).1
    · exact (hlt q h8).2) 17 0 (by omega) (by rw [List.length_cons]; omega)
  have e : F_S_takeWorkload S = L_S_takeWorkload_20 (sT S T') 17 (nI 0) := by
    unfold F_S_takeWorkload
    dsimp only
    rw [a1]
    dsimp only
    rw [if_pos rfl]
    rfl
  rw [e]
  exact ⟨T', a1, a2, a3, h2⟩
theorem c152_true {V : LW} {B : Nat} (h : INV B V) (y : Int32) : (F_L_isStep_c152 V y).1 = 1 ∧ INV B (F_L_isStep_c152 V y).2 := by
  obtain ⟨hO, hP, ht, hx, hN⟩ := h
  obtain ⟨K, k1, k6, eK⟩ := up_1 6 (by omega) (by omega) y
  have eK : (1 : Int32) + F_L_up y (6 : Int32) = nI K := eK
  unfold F_L_isStep_c152
  dsimp only
  rw [eK]
  have r1 := hO.clearText
  have r2 := hP.clearText
  have ec : (F_S_clearText V.1).1 = (F_S_clearText V.2.1).1 := by
    show V.1.2.1 2 1 = V.2.1.2.1 2 1
    rw [hx]
  have hY : YV V.1.1 V.2.1.1 (txt []) ((F_S_clearText V.1).2, (F_S_clearText V.2.1).2, V.2.2) := by
    refine ⟨r1, r2, rfl, rfl, ?_, ?_, ?_, fun j c hj => ?_⟩
    · show sA V.2.1.2.1 2 1 0 = sA V.1.2.1 2 1 0
      rw [hx]
    · show sA V.1.2.1 2 1 0 2 1 = _
      rw [sA_e]; rfl
    · exact Nat.zero_le _
    · simp [txt] at hj
  rw [if_pos ec]
  obtain ⟨ss, V1, a1, a2, a3, ⟨b1, b2, b3, b4, b5, b6⟩, a5⟩ := all184 (C := V.1.1) (C' := V.2.1.1) y k6 7 0 [] _ rfl (by omega) (by omega) (fun s hs => by simp at hs) (by simp [txt]) hY (fun j s hj => by simp at hj)
  have a1 : L_L_isStep_184 y (nI K) 7 (1 : Int32) (0 : Int32) ((F_S_clearText V.1).2, (F_S_clearText V.2.1).2, V.2.2) = ((1 : Int32), V1) := a1
  rw [a1]
  dsimp only
  rw [if_neg (show ¬ (1 : Int32) = 0 by decide)]
  obtain ⟨s, ss, rfl⟩ : ∃ s l, ss = s :: l := by
    cases ss with
    | nil => simp at a2; omega
    | cons s l => exact ⟨s, l, rfl⟩
  have hlen : ss.length + 1 = K := by rw [List.length_cons] at a2; exact a2
  have p3 : (V1.1.1 0).1 4 2 = nI 3 := by rw [b3]; exact ht.p
  have p5 : (V1.2.1.1 0).1 4 2 = nI 5 := by rw [b4]; exact ht.q
  obtain ⟨T', c1, c2, c3, c4, c5, c6⟩ := take_txt b6 a3 (by omega) p3 (Or.inl rfl)
  obtain ⟨T2, d1, d2, d3, d4, d5, d6⟩ := take_txt (S := V1.2.1) (by rw [b5]; exact b6) a3 (by omega) p5 (Or.inr rfl)
  rw [b5] at d1
  have eT : T2 = T' := by
    have := d1.symm.trans c1
    exact (Prod.mk.inj this).2
  subst eT
  have s1 := b1.takeWorkload
  have s2 := b2.takeWorkload
  rw [a2] at c4 c5 d4 d5
  rw [b3] at c5
  rw [b4] at d5
  generalize F_S_takeWorkload V1.1 = X at c4 c5 c6 s1 ⊢
  generalize F_S_takeWorkload V1.2.1 = Y at d4 d5 d6 s2 ⊢
  have hT : ∀ j, 0 ≤ j → j < 0 + K → bn 0 7 (T2 1 j) := fun j _ hj => by
    obtain ⟨q, hq⟩ : ∃ q, (s :: ss)[j]? = some q := ⟨_, List.getElem?_eq_getElem (by rw [List.length_cons]; omega)⟩
    rw [c3 j q hq]
    have := a3 q (List.mem_of_getElem? hq)
    exact ⟨q, by omega, by omega, rfl⟩
  have tw : TWC (X.2.1 0) (Y.2.1 0) := by rw [c5, d5]; exact tw_beginL (tw_cpW K 0 _ _ ht hT) _
  have e4 : (X.2.1 0).1 4 4 = nI K := by
    rw [c5]
    unfold F_C_beginWorkload
    dsimp only
    rw [sC_ne _ _ _ _ (by decide), sC_e]
  have e5 : (X.2.1 0).1 4 5 = 0 := by
    rw [c5]
    unfold F_C_beginWorkload
    dsimp only
    rw [sC_e]
  have ek : nI K - (1 : Int32) = nI (K - 1) := pk_sub (b := 1) k1
  obtain ⟨q, hq⟩ : ∃ q, (s :: ss)[K - 1]? = some q := ⟨_, List.getElem?_eq_getElem (by rw [List.length_cons]; omega)⟩
  have ew : F_S_workload X.2 (nI (K - 1)) = nI q := by
    rw [workload_k e4 (by omega) (by omega), c5]
    unfold F_C_beginWorkload
    dsimp only
    rw [sC_o _ _ _ _ (by decide), sC_o _ _ _ _ (by decide), cpW_2, if_pos (by omega)]
    exact c3 _ q hq
  rw [if_pos c4, if_pos d4, ek, ew, nI_clamp (show K - 1 < 2 ^ 31 by omega), a5 _ q hq, if_pos rfl, cnt_11, e5, if_pos rfl]
  refine ⟨rfl, s1, s2, tw, ?_, ?_⟩
  · show Y.2.2.1 = X.2.2.1
    rw [d6, c6]
  · show NUM B (X.2.1 0)
    refine hN.cg (fun j hj => ?_)
    rw [c5]
    unfold F_C_beginWorkload
    dsimp only
    rw [sC_ne _ _ _ _ (by revert j; decide), sC_ne _ _ _ _ (by revert j; decide), cpW_o _ _ _ _ (by decide)]
/-- a step of the law -/
theorem step_true {V : LW} {B : Nat} (h : INV B V) (hB : B < 2 ^ 28) (x : Int32) : (F_L_isStep V x).1 = 1 ∧ INV (B + 4200) (F_L_isStep V x).2 := by
  have up : ∀ r : Int32 × LW, r.1 = 1 ∧ INV B r.2 → r.1 = 1 ∧ INV (B + 4200) r.2 := fun r q => ⟨q.1, q.2.up (by omega)⟩
  unfold F_L_isStep
  dsimp only
  split
  · exact up _ (c92_true h _)
  split
  · exact up _ (c152_true h _)
  split
  · exact c384_true h hB _ rfl
  split
  · exact up _ (c517_true h _)
  split
  · exact up _ (c562_true h _ rfl)
  split
  · exact up _ (c663_true h _)
  · exact up _ (c843_true h _)
