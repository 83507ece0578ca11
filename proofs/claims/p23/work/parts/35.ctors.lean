theorem hfsX0 : ∀ j, j < 19 → defaultValue (tyX0 j) = vp_V [.null, .null, .int 0, .null, .int 0, .int 0, .null, .int 0, .int 0, .int 0, .int 0, .int 0, .int 0, .int 0, .int 0, .int 0, .long 0, .int 0, .int 0] j := by decide +kernel
theorem hfsX1 : ∀ j, j < 4 → defaultValue (tyX1 j) = vp_V [.null, .int 0, .null, .int 0] j := by decide +kernel
theorem hfsX2 : ∀ j, j < 7 → defaultValue (tyX2 j) = vp_V [.null, .null, .null, .null, .null, .int 0, .int 0] j := by decide +kernel
section
variable {p : Program} {l : Launch} {e : Env} {R : Room} {s : State} {m : MethodId} {args : Array Value} {below : List Frame} {meth : Method} {c : Code} {D : va_G} {A : Nat → Prop} {nL ce sl : Nat} {Q : State → Prop} {w : va_W} {lv : List (Nat × Value)} {pc : Nat} {st : List Value}
theorem cell4 {cA : ClassId} {n : Nat} {f g : Nat → Option Nat} (h : ∀ j, j < n → f j = g j) : vp_cell cA (n, .inr (.inr (.inr (.inr f)))) = vp_cell cA (n, .inr (.inr (.inr (.inr g)))) := by
  rw [vp_cell_q, vp_cell_q]
  unfold arrV
  congr 1
  apply Array.ext
  · simp
  · intro i h1 h2
    simp only [Array.getElem_ofFn]
    rw [h i (by simpa using h1)]
theorem z_same (k : Nat) {a : Nat} {cA : ClassId} {x y : vp_A} (hk : w[k]? = some (a, .inl (cA, x))) (he : vp_cell cA x = vp_cell cA y) {w' : va_W} (hs : w.set k (a, .inl (cA, y)) = w') (kk : Z p l e R s m args below meth c D A nL ce sl Q w' lv pc st) : Z p l e R s m args below meth c D A nL ce sl Q w lv pc st := by
  subst hs
  have key : ∀ (i : Nat) (q : Nat × va_E), (w.set k (a, .inl (cA, y)))[i]? = some q → ∃ q' : Nat × va_E, w[i]? = some q' ∧ q'.1 = q.1 ∧ ∀ H : Heap, va_at D vwCl q' H → va_at D vwCl q H := by
    intro i q hi
    rw [List.getElem?_set] at hi
    by_cases hik : k = i
    · subst hik
      rw [if_pos rfl] at hi
      split at hi
      · cases hi
        refine ⟨_, hk, rfl, fun H h => ?_⟩
        show H[a]? = some (vp_cell cA y)
        rw [← he]
        exact h
      · cases hi
    · rw [if_neg hik] at hi
      exact ⟨q, hi, rfl, fun _ h => h⟩
  refine fun H locs ls hP hD hS hl => kk H locs ls (fun i q hi => ?_) ⟨fun i j p q hi hj hpq => ?_, fun i q hi => ?_⟩ hS hl
  · obtain ⟨q', h1, _, h3⟩ := key i q hi
    exact h3 H (hP i q' h1)
  · obtain ⟨p', h1, h2, _⟩ := key i p hi
    obtain ⟨q', h4, h5, _⟩ := key j q hj
    exact hD.1 i j p' q' h1 h4 (by rw [h2, h5]; exact hpq)
  · obtain ⟨q', h1, h2, _⟩ := key i q hi
    rw [← h2]
    exact hD.2 i q' h1
end
def C0 : CS := (fun i => if i = 0 then upd (fun _ => 0) 0 100 else if i = 3 then firstS else if i = 4 then (fun k => if k = 2 then 1 else if k = 4 then 1 else if k = 7 then 1000 else if k = 8 then 20 else 0) else fun _ => 0, 0)
def T0 : ARR := fun _ _ => 0
set_option maxRecDepth 100000 in
set_option maxHeartbeats 4000000 in
theorem c_C_init (l : Launch) (D : va_G) (kI kC kQ : ClassId) (a : Nat) : CtN (U := Nat → Nat) l yX0_init cX0_init 1 { frames := 1, cells := 4, slots := 39, locals := 15 } D (tysG kI kC kQ) [(a, .inr (0, [.null, .null, .int 0, .null, .int 0, .int 0, .null, .int 0, .int 0, .int 0, .int 0, .int 0, .int 0, .int 0, .int 0, .int 0, .long 0, .int 0, .int 0]))] [.ref a] (fun u => wC kI u C0) (fun u => u 0 = a) 4 39 := by
  refine met_ZN (own := "ShadowLatches$Circuit") (by decide +kernel) rfl (Nat.le_of_ble_eq_true rfl) ?_
  intro p e s m args below meth c A Q X hname hQ
  show Z p l e { frames := 1, cells := 4, slots := 39, locals := 15 } s m args below meth c D A 1 0 0 Q [(a, .inr (0, [.null, .null, .int 0, .null, .int 0, .int 0, .null, .int 0, .int 0, .int 0, .int 0, .int 0, .int 0, .int 0, .int 0, .int 0, .long 0, .int 0, .int 0]))] [(0, .ref a)] 0 []
  refine z_aload_n X dX0_init_0 0 rfl ?_
  refine z_objInit X wd1_20 (Nat.le_of_ble_eq_true rfl) (Nat.le_of_ble_eq_true rfl) dX0_init_1 ?_
  refine z_aload_n X dX0_init_4 0 rfl ?_
  refine z_bipush (v := (8 : Int32)) X dX0_init_5 (by decide) ?_
  refine z_newI X (by decide) (N' := 8) (by decide +kernel) (by decide +kernel) (Nat.le_of_ble_eq_true rfl) (Nat.le_of_ble_eq_true rfl) (fun p7 => [(a, .inr (0, [.null, .null, .int 0, .null, .int 0, .int 0, .null, .int 0, .int 0, .int 0, .int 0, .int 0, .int 0, .int 0, .int 0, .int 0, .long 0, .int 0, .int 0])), (p7, .inl (kI, 8, .inl (fun _ => 0)))]) (fun _ => rfl) dX0_init_7 (fun p7 => ?_)
  refine z_putF X inW0 rfl tyX0 tyX0_ok nmX0 0 rfl 0 (by decide) wd1_30 rfl rfl hname rfl rfl rfl (Nat.le_of_ble_eq_true rfl) (w' := [(a, .inr (0, [.ref (p7), .null, .int 0, .null, .int 0, .int 0, .null, .int 0, .int 0, .int 0, .int 0, .int 0, .int 0, .int 0, .int 0, .int 0, .long 0, .int 0, .int 0])), (p7, .inl (kI, 8, .inl (fun _ => 0)))]) rfl dX0_init_9 ?_
  refine z_aload_n X dX0_init_12 0 rfl ?_
  refine z_bipush (v := (8 : Int32)) X dX0_init_13 (by decide) ?_
  refine z_newI X (by decide) (N' := 8) (by decide +kernel) (by decide +kernel) (Nat.le_of_ble_eq_true rfl) (Nat.le_of_ble_eq_true rfl) (fun p15 => [(a, .inr (0, [.ref (p7), .null, .int 0, .null, .int 0, .int 0, .null, .int 0, .int 0, .int 0, .int 0, .int 0, .int 0, .int 0, .int 0, .int 0, .long 0, .int 0, .int 0])), (p7, .inl (kI, 8, .inl (fun _ => 0))), (p15, .inl (kI, 8, .inl (fun _ => 0)))]) (fun _ => rfl) dX0_init_15 (fun p15 => ?_)
  refine z_putF X inW0 rfl tyX0 tyX0_ok nmX0 0 rfl 1 (by decide) wd1_32 rfl rfl hname rfl rfl rfl (Nat.le_of_ble_eq_true rfl) (w' := [(a, .inr (0, [.ref (p7), .ref (p15), .int 0, .null, .int 0, .int 0, .null, .int 0, .int 0, .int 0, .int 0, .int 0, .int 0, .int 0, .int 0, .int 0, .long 0, .int 0, .int 0])), (p7, .inl (kI, 8, .inl (fun _ => 0))), (p15, .inl (kI, 8, .inl (fun _ => 0)))]) rfl dX0_init_17 ?_
  refine z_aload_n X dX0_init_20 0 rfl ?_
  refine z_bipush (v := (16 : Int32)) X dX0_init_21 (by decide) ?_
  refine z_newI X (by decide) (N' := 16) (by decide +kernel) (by decide +kernel) (Nat.le_of_ble_eq_true rfl) (Nat.le_of_ble_eq_true rfl) (fun p23 => [(a, .inr (0, [.ref (p7), .ref (p15), .int 0, .null, .int 0, .int 0, .null, .int 0, .int 0, .int 0, .int 0, .int 0, .int 0, .int 0, .int 0, .int 0, .long 0, .int 0, .int 0])), (p7, .inl (kI, 8, .inl (fun _ => 0))), (p15, .inl (kI, 8, .inl (fun _ => 0))), (p23, .inl (kI, 16, .inl (fun _ => 0)))]) (fun _ => rfl) dX0_init_23 (fun p23 => ?_)
  refine z_putF X inW0 rfl tyX0 tyX0_ok nmX0 0 rfl 3 (by decide) wd1_36 rfl rfl hname rfl rfl rfl (Nat.le_of_ble_eq_true rfl) (w' := [(a, .inr (0, [.ref (p7), .ref (p15), .int 0, .ref (p23), .int 0, .int 0, .null, .int 0, .int 0, .int 0, .int 0, .int 0, .int 0, .int 0, .int 0, .int 0, .long 0, .int 0, .int 0])), (p7, .inl (kI, 8, .inl (fun _ => 0))), (p15, .inl (kI, 8, .inl (fun _ => 0))), (p23, .inl (kI, 16, .inl (fun _ => 0)))]) rfl dX0_init_25 ?_
  refine z_aload_n X dX0_init_28 0 rfl ?_
  refine z_getF X wd1_21 dX0_init_29 (fun t hF => ?_)
  refine z_clone X hF wd1_23 (Nat.le_of_ble_eq_true rfl) (Nat.le_of_ble_eq_true rfl) (Nat.le_of_ble_eq_true rfl) (Nat.le_of_ble_eq_true rfl) (fun p32 => [(a, .inr (0, [.ref (p7), .ref (p15), .int 0, .ref (p23), .int 0, .int 0, .null, .int 0, .int 0, .int 0, .int 0, .int 0, .int 0, .int 0, .int 0, .int 0, .long 0, .int 0, .int 0])), (p7, .inl (kI, 8, .inl (fun _ => 0))), (p15, .inl (kI, 8, .inl (fun _ => 0))), (p23, .inl (kI, 16, .inl (fun _ => 0))), (p32, .inl (kI, 7, .inl firstS))]) (fun _ => rfl) dX0_init_32 (fun p32 => ?_)
  refine z_castI X 4 rfl wd1_29 dX0_init_35 ?_
  refine z_putF X inW0 rfl tyX0 tyX0_ok nmX0 0 rfl 6 (by decide) wd1_42 rfl rfl hname rfl rfl rfl (Nat.le_of_ble_eq_true rfl) (w' := [(a, .inr (0, [.ref (p7), .ref (p15), .int 0, .ref (p23), .int 0, .int 0, .ref (p32), .int 0, .int 0, .int 0, .int 0, .int 0, .int 0, .int 0, .int 0, .int 0, .long 0, .int 0, .int 0])), (p7, .inl (kI, 8, .inl (fun _ => 0))), (p15, .inl (kI, 8, .inl (fun _ => 0))), (p23, .inl (kI, 16, .inl (fun _ => 0))), (p32, .inl (kI, 7, .inl firstS))]) rfl dX0_init_38 ?_
  refine z_aload_n X dX0_init_41 0 rfl ?_
  refine z_get X inW0 rfl 0 rfl 0 (by decide) wd1_30 rfl rfl dX0_init_42 ?_
  refine z_iconst (v := (0 : Int32)) X dX0_init_45 (by decide) ?_
  refine z_bipush (v := (100 : Int32)) X dX0_init_46 (by decide) ?_
  refine z_iast X 1 0 rfl rfl (vin_c (by decide +kernel)) (j := 0) (by decide +kernel) (w' := [(a, .inr (0, [.ref (p7), .ref (p15), .int 0, .ref (p23), .int 0, .int 0, .ref (p32), .int 0, .int 0, .int 0, .int 0, .int 0, .int 0, .int 0, .int 0, .int 0, .long 0, .int 0, .int 0])), (p7, .inl (kI, 8, .inl (upd (fun _ => 0) 0 100))), (p15, .inl (kI, 8, .inl (fun _ => 0))), (p23, .inl (kI, 16, .inl (fun _ => 0))), (p32, .inl (kI, 7, .inl firstS))]) rfl dX0_init_48 ?_
  refine z_aload_n X dX0_init_49 0 rfl ?_
  refine z_iconst (v := (1 : Int32)) X dX0_init_50 (by decide) ?_
  refine z_put X inW0 rfl tyX0 tyX0_ok nmX0 0 rfl 2 (by decide) wd1_34 rfl rfl rfl rfl (Nat.le_of_ble_eq_true rfl) (w' := [(a, .inr (0, [.ref (p7), .ref (p15), .int 1, .ref (p23), .int 0, .int 0, .ref (p32), .int 0, .int 0, .int 0, .int 0, .int 0, .int 0, .int 0, .int 0, .int 0, .long 0, .int 0, .int 0])), (p7, .inl (kI, 8, .inl (upd (fun _ => 0) 0 100))), (p15, .inl (kI, 8, .inl (fun _ => 0))), (p23, .inl (kI, 16, .inl (fun _ => 0))), (p32, .inl (kI, 7, .inl firstS))]) rfl dX0_init_51 ?_
  refine z_aload_n X dX0_init_54 0 rfl ?_
  refine z_iconst (v := (1 : Int32)) X dX0_init_55 (by decide) ?_
  refine z_put X inW0 rfl tyX0 tyX0_ok nmX0 0 rfl 4 (by decide) wd1_38 rfl rfl rfl rfl (Nat.le_of_ble_eq_true rfl) (w' := [(a, .inr (0, [.ref (p7), .ref (p15), .int 1, .ref (p23), .int 1, .int 0, .ref (p32), .int 0, .int 0, .int 0, .int 0, .int 0, .int 0, .int 0, .int 0, .int 0, .long 0, .int 0, .int 0])), (p7, .inl (kI, 8, .inl (upd (fun _ => 0) 0 100))), (p15, .inl (kI, 8, .inl (fun _ => 0))), (p23, .inl (kI, 16, .inl (fun _ => 0))), (p32, .inl (kI, 7, .inl firstS))]) rfl dX0_init_56 ?_
  refine z_aload_n X dX0_init_59 0 rfl ?_
  refine z_sipush (v := (1000 : Int32)) X dX0_init_60 (by decide) ?_
  refine z_put X inW0 rfl tyX0 tyX0_ok nmX0 0 rfl 7 (by decide) wd1_44 rfl rfl rfl rfl (Nat.le_of_ble_eq_true rfl) (w' := [(a, .inr (0, [.ref (p7), .ref (p15), .int 1, .ref (p23), .int 1, .int 0, .ref (p32), .int 1000, .int 0, .int 0, .int 0, .int 0, .int 0, .int 0, .int 0, .int 0, .long 0, .int 0, .int 0])), (p7, .inl (kI, 8, .inl (upd (fun _ => 0) 0 100))), (p15, .inl (kI, 8, .inl (fun _ => 0))), (p23, .inl (kI, 16, .inl (fun _ => 0))), (p32, .inl (kI, 7, .inl firstS))]) rfl dX0_init_63 ?_
  refine z_aload_n X dX0_init_66 0 rfl ?_
  refine z_bipush (v := (20 : Int32)) X dX0_init_67 (by decide) ?_
  refine z_put X inW0 rfl tyX0 tyX0_ok nmX0 0 rfl 8 (by decide) wd1_46 rfl rfl rfl rfl (Nat.le_of_ble_eq_true rfl) (w' := [(a, .inr (0, [.ref (p7), .ref (p15), .int 1, .ref (p23), .int 1, .int 0, .ref (p32), .int 1000, .int 20, .int 0, .int 0, .int 0, .int 0, .int 0, .int 0, .int 0, .long 0, .int 0, .int 0])), (p7, .inl (kI, 8, .inl (upd (fun _ => 0) 0 100))), (p15, .inl (kI, 8, .inl (fun _ => 0))), (p23, .inl (kI, 16, .inl (fun _ => 0))), (p32, .inl (kI, 7, .inl firstS))]) rfl dX0_init_69 ?_
  exact z_vret X hQ rfl (fun i => [a, p7, p15, p23, p32].getD i 0) rfl rfl dX0_init_72
set_option maxRecDepth 100000 in
set_option maxHeartbeats 4000000 in
theorem c_T_init (l : Launch) (D : va_G) (kI kC kQ : ClassId) (a : Nat) : CtN (U := Nat → Nat) l yX1_init cX1_init 1 { frames := 1, cells := 2, slots := 76, locals := 13 } D (tysG kI kC kQ) [(a, .inr (1, [.null, .int 0, .null, .int 0]))] [.ref a] (fun u => wT kI kC u T0) (fun u => u 0 = a) 2 76 := by
  refine met_ZN (own := "ShadowLatches$WorkloadText") (by decide +kernel) rfl (Nat.le_of_ble_eq_true rfl) ?_
  intro p e s m args below meth c A Q X hname hQ
  show Z p l e { frames := 1, cells := 2, slots := 76, locals := 13 } s m args below meth c D A 1 0 0 Q [(a, .inr (1, [.null, .int 0, .null, .int 0]))] [(0, .ref a)] 0 []
  refine z_aload_n X dX1_init_0 0 rfl ?_
  refine z_objInit X wd1_114 (Nat.le_of_ble_eq_true rfl) (Nat.le_of_ble_eq_true rfl) dX1_init_1 ?_
  refine z_aload_n X dX1_init_4 0 rfl ?_
  refine z_bipush (v := (60 : Int32)) X dX1_init_5 (by decide) ?_
  refine z_newC X (by decide) (N' := 60) (by decide +kernel) (by decide +kernel) (Nat.le_of_ble_eq_true rfl) (Nat.le_of_ble_eq_true rfl) (fun p7 => [(a, .inr (1, [.null, .int 0, .null, .int 0])), (p7, .inl (kC, 60, .inl (fun _ => 0)))]) (fun _ => rfl) dX1_init_7 (fun p7 => ?_)
  refine z_putF X inW1 rfl tyX1 tyX1_ok nmX1 0 rfl 0 (by decide) wd1_115 rfl rfl hname rfl rfl rfl (Nat.le_of_ble_eq_true rfl) (w' := [(a, .inr (1, [.ref (p7), .int 0, .null, .int 0])), (p7, .inl (kC, 60, .inl (fun _ => 0)))]) rfl dX1_init_9 ?_
  refine z_aload_n X dX1_init_12 0 rfl ?_
  refine z_bipush (v := (16 : Int32)) X dX1_init_13 (by decide) ?_
  refine z_newI X (by decide) (N' := 16) (by decide +kernel) (by decide +kernel) (Nat.le_of_ble_eq_true rfl) (Nat.le_of_ble_eq_true rfl) (fun p15 => [(a, .inr (1, [.ref (p7), .int 0, .null, .int 0])), (p7, .inl (kC, 60, .inl (fun _ => 0))), (p15, .inl (kI, 16, .inl (fun _ => 0)))]) (fun _ => rfl) dX1_init_15 (fun p15 => ?_)
  refine z_putF X inW1 rfl tyX1 tyX1_ok nmX1 0 rfl 2 (by decide) wd1_118 rfl rfl hname rfl rfl rfl (Nat.le_of_ble_eq_true rfl) (w' := [(a, .inr (1, [.ref (p7), .int 0, .ref (p15), .int 0])), (p7, .inl (kC, 60, .inl (fun _ => 0))), (p15, .inl (kI, 16, .inl (fun _ => 0)))]) rfl dX1_init_17 ?_
  exact z_vret X hQ rfl (fun i => [a, p7, p15].getD i 0) rfl rfl dX1_init_20
def S0 : SLS := (fun _ => C0, T0, fun _ => 0)
set_option maxRecDepth 100000 in
set_option maxHeartbeats 4000000 in
theorem c_S_init (l : Launch) (D : va_G) (kI kC kQ : ClassId) (a : Nat) : CtN (U := ((Nat → Nat) × (Nat → Nat)) × (Nat → Nat → Nat)) l yX2_init cX2_init 2 { frames := 2, cells := 39, slots := 490, locals := 35 } D (tysG kI kC kQ) [(a, .inr (2, [.null, .null, .null, .null, .null, .int 0, .int 0]))] [.ref a] (fun u => wS kI kC kQ u.1.1 u.1.2 u.2 S0) (fun u => u.1.1 0 = a) 39 490 := by
  refine met_ZN (own := "ShadowLatches") (by decide +kernel) rfl (Nat.le_of_ble_eq_true rfl) ?_
  intro p e s m args below meth c A Q X hname hQ
  show Z p l e { frames := 2, cells := 39, slots := 490, locals := 35 } s m args below meth c D A 2 0 0 Q [(a, .inr (2, [.null, .null, .null, .null, .null, .int 0, .int 0]))] [(0, .ref a)] 0 []
  refine z_aload_n X dX2_init_0 0 rfl ?_
  refine z_objInit X wd1_12 (Nat.le_of_ble_eq_true rfl) (Nat.le_of_ble_eq_true rfl) dX2_init_1 ?_
  refine z_aload_n X dX2_init_4 0 rfl ?_
  refine z_new X inW0 tyX0 tyX0_ok wd1_15 wd1_16 wd1_2 rfl [.null, .null, .int 0, .null, .int 0, .int 0, .null, .int 0, .int 0, .int 0, .int 0, .int 0, .int 0, .int 0, .int 0, .int 0, .long 0, .int 0, .int 0] (fun j hj => by revert j; exact hfsX0) (Nat.le_of_ble_eq_true rfl) (Nat.le_of_ble_eq_true rfl) (fun q0 => [(a, .inr (2, [.null, .null, .null, .null, .null, .int 0, .int 0])), (q0, .inr (0, [.null, .null, .int 0, .null, .int 0, .int 0, .null, .int 0, .int 0, .int 0, .int 0, .int 0, .int 0, .int 0, .int 0, .int 0, .long 0, .int 0, .int 0]))]) (fun _ => rfl) dX2_init_5 (fun q0 => ?_)
  refine z_dup X dX2_init_8 rfl ?_
  refine z_callI X (c_C_init l D kI kC kQ q0) wd1_19 wd1_2 wd1_17 wd1_18 rfl (by decide +kernel) rfl rfl ⟨(Nat.le_of_ble_eq_true rfl), (Nat.le_of_ble_eq_true rfl)⟩ ⟨(Nat.le_of_ble_eq_true rfl), (Nat.le_of_ble_eq_true rfl)⟩ rfl rfl (Nat.le_of_ble_eq_true rfl) dX2_init_9 (wl := [(a, .inr (2, [.null, .null, .null, .null, .null, .int 0, .int 0]))]) (wr := []) rfl (fun u0 hu0 => ?_)
  subst hu0
  refine z_w (w' := ([(a, .inr (2, [.null, .null, .null, .null, .null, .int 0, .int 0]))] ++ wC kI u0 C0)) rfl ?_
  refine z_putF X inW2 rfl tyX2 tyX2_ok nmX2 0 rfl 0 (by decide) wd1_132 rfl rfl hname rfl rfl rfl (Nat.le_of_ble_eq_true rfl) (w' := ([(a, .inr (2, [.ref (u0 0), .null, .null, .null, .null, .int 0, .int 0]))] ++ wC kI u0 C0)) rfl dX2_init_12 ?_
  refine z_aload_n X dX2_init_15 0 rfl ?_
  refine z_new X inW0 tyX0 tyX0_ok wd1_15 wd1_16 wd1_2 rfl [.null, .null, .int 0, .null, .int 0, .int 0, .null, .int 0, .int 0, .int 0, .int 0, .int 0, .int 0, .int 0, .int 0, .int 0, .long 0, .int 0, .int 0] (fun j hj => by revert j; exact hfsX0) (Nat.le_of_ble_eq_true rfl) (Nat.le_of_ble_eq_true rfl) (fun q1 => ([(a, .inr (2, [.ref (u0 0), .null, .null, .null, .null, .int 0, .int 0]))] ++ (wC kI u0 C0 ++ [(q1, .inr (0, [.null, .null, .int 0, .null, .int 0, .int 0, .null, .int 0, .int 0, .int 0, .int 0, .int 0, .int 0, .int 0, .int 0, .int 0, .long 0, .int 0, .int 0]))]))) (fun _ => rfl) dX2_init_16 (fun q1 => ?_)
  refine z_dup X dX2_init_19 rfl ?_
  refine z_callI X (c_C_init l D kI kC kQ q1) wd1_19 wd1_2 wd1_17 wd1_18 rfl (by decide +kernel) rfl rfl ⟨(Nat.le_of_ble_eq_true rfl), (Nat.le_of_ble_eq_true rfl)⟩ ⟨(Nat.le_of_ble_eq_true rfl), (Nat.le_of_ble_eq_true rfl)⟩ rfl rfl (Nat.le_of_ble_eq_true rfl) dX2_init_20 (wl := ([(a, .inr (2, [.ref (u0 0), .null, .null, .null, .null, .int 0, .int 0]))] ++ wC kI u0 C0)) (wr := []) rfl (fun u1 hu1 => ?_)
  subst hu1
  refine z_w (w' := ([(a, .inr (2, [.ref (u0 0), .null, .null, .null, .null, .int 0, .int 0]))] ++ (wC kI u0 C0 ++ wC kI u1 C0))) rfl ?_
  refine z_putF X inW2 rfl tyX2 tyX2_ok nmX2 0 rfl 1 (by decide) wd1_133 rfl rfl hname rfl rfl rfl (Nat.le_of_ble_eq_true rfl) (w' := ([(a, .inr (2, [.ref (u0 0), .ref (u1 0), .null, .null, .null, .int 0, .int 0]))] ++ (wC kI u0 C0 ++ wC kI u1 C0))) rfl dX2_init_23 ?_
  refine z_aload_n X dX2_init_26 0 rfl ?_
  refine z_new X inW0 tyX0 tyX0_ok wd1_15 wd1_16 wd1_2 rfl [.null, .null, .int 0, .null, .int 0, .int 0, .null, .int 0, .int 0, .int 0, .int 0, .int 0, .int 0, .int 0, .int 0, .int 0, .long 0, .int 0, .int 0] (fun j hj => by revert j; exact hfsX0) (Nat.le_of_ble_eq_true rfl) (Nat.le_of_ble_eq_true rfl) (fun q2 => ([(a, .inr (2, [.ref (u0 0), .ref (u1 0), .null, .null, .null, .int 0, .int 0]))] ++ (wC kI u0 C0 ++ (wC kI u1 C0 ++ [(q2, .inr (0, [.null, .null, .int 0, .null, .int 0, .int 0, .null, .int 0, .int 0, .int 0, .int 0, .int 0, .int 0, .int 0, .int 0, .int 0, .long 0, .int 0, .int 0]))])))) (fun _ => rfl) dX2_init_27 (fun q2 => ?_)
  refine z_dup X dX2_init_30 rfl ?_
  refine z_callI X (c_C_init l D kI kC kQ q2) wd1_19 wd1_2 wd1_17 wd1_18 rfl (by decide +kernel) rfl rfl ⟨(Nat.le_of_ble_eq_true rfl), (Nat.le_of_ble_eq_true rfl)⟩ ⟨(Nat.le_of_ble_eq_true rfl), (Nat.le_of_ble_eq_true rfl)⟩ rfl rfl (Nat.le_of_ble_eq_true rfl) dX2_init_31 (wl := ([(a, .inr (2, [.ref (u0 0), .ref (u1 0), .null, .null, .null, .int 0, .int 0]))] ++ (wC kI u0 C0 ++ wC kI u1 C0))) (wr := []) rfl (fun u2 hu2 => ?_)
  subst hu2
  refine z_w (w' := ([(a, .inr (2, [.ref (u0 0), .ref (u1 0), .null, .null, .null, .int 0, .int 0]))] ++ (wC kI u0 C0 ++ (wC kI u1 C0 ++ wC kI u2 C0)))) rfl ?_
  refine z_putF X inW2 rfl tyX2 tyX2_ok nmX2 0 rfl 2 (by decide) wd1_134 rfl rfl hname rfl rfl rfl (Nat.le_of_ble_eq_true rfl) (w' := ([(a, .inr (2, [.ref (u0 0), .ref (u1 0), .ref (u2 0), .null, .null, .int 0, .int 0]))] ++ (wC kI u0 C0 ++ (wC kI u1 C0 ++ wC kI u2 C0)))) rfl dX2_init_34 ?_
  refine z_aload_n X dX2_init_37 0 rfl ?_
  refine z_iconst (v := (4 : Int32)) X dX2_init_38 (by decide) ?_
  refine z_newQ X wd1_15 (by decide) (N' := 4) (by decide +kernel) (by decide +kernel) (Nat.le_of_ble_eq_true rfl) (Nat.le_of_ble_eq_true rfl) (fun hist => ([(a, .inr (2, [.ref (u0 0), .ref (u1 0), .ref (u2 0), .null, .null, .int 0, .int 0]))] ++ (wC kI u0 C0 ++ (wC kI u1 C0 ++ (wC kI u2 C0 ++ [(hist, .inl (kQ, 4, .inr (.inr (.inr (.inr (fun _ => none))))))]))))) (fun _ => rfl) dX2_init_39 (fun hist => ?_)
  refine z_putF X inW2 rfl tyX2 tyX2_ok nmX2 0 rfl 3 (by decide) wd1_135 rfl rfl hname rfl rfl rfl (Nat.le_of_ble_eq_true rfl) (w' := ([(a, .inr (2, [.ref (u0 0), .ref (u1 0), .ref (u2 0), .ref (hist), .null, .int 0, .int 0]))] ++ (wC kI u0 C0 ++ (wC kI u1 C0 ++ (wC kI u2 C0 ++ [(hist, .inl (kQ, 4, .inr (.inr (.inr (.inr (fun _ => none))))))]))))) rfl dX2_init_42 ?_
  refine z_iconst (v := (0 : Int32)) X dX2_init_45 (by decide) ?_
  refine z_istore_n (lv' := [(1, .int 0), (0, .ref (a))]) X dX2_init_46 (Nat.le_of_ble_eq_true rfl) rfl ?_
  refine z_iload_n X dX2_init_47 0 rfl ?_
  refine z_iconst (v := (4 : Int32)) X dX2_init_48 (by decide) ?_
  refine z_icmp_ge (tgt := 71) X dX2_init_49 (by decide) (fun c => absurd c (by decide)) (fun _ => ?_)
  refine z_aload_n X dX2_init_52 1 rfl ?_
  refine z_get X inW2 rfl 0 rfl 3 (by decide) wd1_135 rfl rfl dX2_init_53 ?_
  refine z_iload_n X dX2_init_56 0 rfl ?_
  refine z_new X inW0 tyX0 tyX0_ok wd1_15 wd1_16 wd1_2 rfl [.null, .null, .int 0, .null, .int 0, .int 0, .null, .int 0, .int 0, .int 0, .int 0, .int 0, .int 0, .int 0, .int 0, .int 0, .long 0, .int 0, .int 0] (fun j hj => by revert j; exact hfsX0) (Nat.le_of_ble_eq_true rfl) (Nat.le_of_ble_eq_true rfl) (fun q3 => ([(a, .inr (2, [.ref (u0 0), .ref (u1 0), .ref (u2 0), .ref (hist), .null, .int 0, .int 0]))] ++ (wC kI u0 C0 ++ (wC kI u1 C0 ++ (wC kI u2 C0 ++ [(hist, .inl (kQ, 4, .inr (.inr (.inr (.inr (fun _ => none)))))), (q3, .inr (0, [.null, .null, .int 0, .null, .int 0, .int 0, .null, .int 0, .int 0, .int 0, .int 0, .int 0, .int 0, .int 0, .int 0, .int 0, .long 0, .int 0, .int 0]))]))))) (fun _ => rfl) dX2_init_57 (fun q3 => ?_)
  refine z_dup X dX2_init_60 rfl ?_
  refine z_callI X (c_C_init l D kI kC kQ q3) wd1_19 wd1_2 wd1_17 wd1_18 rfl (by decide +kernel) rfl rfl ⟨(Nat.le_of_ble_eq_true rfl), (Nat.le_of_ble_eq_true rfl)⟩ ⟨(Nat.le_of_ble_eq_true rfl), (Nat.le_of_ble_eq_true rfl)⟩ rfl rfl (Nat.le_of_ble_eq_true rfl) dX2_init_61 (wl := ([(a, .inr (2, [.ref (u0 0), .ref (u1 0), .ref (u2 0), .ref (hist), .null, .int 0, .int 0]))] ++ (wC kI u0 C0 ++ (wC kI u1 C0 ++ (wC kI u2 C0 ++ [(hist, .inl (kQ, 4, .inr (.inr (.inr (.inr (fun _ => none))))))]))))) (wr := []) rfl (fun u3 hu3 => ?_)
  subst hu3
  refine z_w (w' := ([(a, .inr (2, [.ref (u0 0), .ref (u1 0), .ref (u2 0), .ref (hist), .null, .int 0, .int 0]))] ++ (wC kI u0 C0 ++ (wC kI u1 C0 ++ (wC kI u2 C0 ++ ([(hist, .inl (kQ, 4, .inr (.inr (.inr (.inr (fun _ => none))))))] ++ wC kI u3 C0)))))) rfl ?_
  refine z_aast (r := (RX0, TX0, 19)) X 16 2 17 0 rfl rfl rfl rfl (vin_c (by decide +kernel)) (j := 0) (by decide +kernel) (w' := ([(a, .inr (2, [.ref (u0 0), .ref (u1 0), .ref (u2 0), .ref (hist), .null, .int 0, .int 0]))] ++ (wC kI u0 C0 ++ (wC kI u1 C0 ++ (wC kI u2 C0 ++ ([(hist, .inl (kQ, 4, .inr (.inr (.inr (.inr (va_up (fun _ => none) 0 (some (u3 0))))))))] ++ wC kI u3 C0)))))) rfl dX2_init_64 ?_
  refine z_iinc (v := (1 : Int32)) (lv' := [(1, .int 1), (0, .ref (a))]) X dX2_init_65 0 rfl (by decide) (Nat.le_of_ble_eq_true rfl) rfl ?_
  refine z_goto (tgt := 47) X dX2_init_68 (by decide) ?_
  refine z_iload_n X dX2_init_47 0 rfl ?_
  refine z_iconst (v := (4 : Int32)) X dX2_init_48 (by decide) ?_
  refine z_icmp_ge (tgt := 71) X dX2_init_49 (by decide) (fun c => absurd c (by decide)) (fun _ => ?_)
  refine z_aload_n X dX2_init_52 1 rfl ?_
  refine z_get X inW2 rfl 0 rfl 3 (by decide) wd1_135 rfl rfl dX2_init_53 ?_
  refine z_iload_n X dX2_init_56 0 rfl ?_
  refine z_new X inW0 tyX0 tyX0_ok wd1_15 wd1_16 wd1_2 rfl [.null, .null, .int 0, .null, .int 0, .int 0, .null, .int 0, .int 0, .int 0, .int 0, .int 0, .int 0, .int 0, .int 0, .int 0, .long 0, .int 0, .int 0] (fun j hj => by revert j; exact hfsX0) (Nat.le_of_ble_eq_true rfl) (Nat.le_of_ble_eq_true rfl) (fun q4 => ([(a, .inr (2, [.ref (u0 0), .ref (u1 0), .ref (u2 0), .ref (hist), .null, .int 0, .int 0]))] ++ (wC kI u0 C0 ++ (wC kI u1 C0 ++ (wC kI u2 C0 ++ ([(hist, .inl (kQ, 4, .inr (.inr (.inr (.inr (va_up (fun _ => none) 0 (some (u3 0))))))))] ++ (wC kI u3 C0 ++ [(q4, .inr (0, [.null, .null, .int 0, .null, .int 0, .int 0, .null, .int 0, .int 0, .int 0, .int 0, .int 0, .int 0, .int 0, .int 0, .int 0, .long 0, .int 0, .int 0]))]))))))) (fun _ => rfl) dX2_init_57 (fun q4 => ?_)
  refine z_dup X dX2_init_60 rfl ?_
  refine z_callI X (c_C_init l D kI kC kQ q4) wd1_19 wd1_2 wd1_17 wd1_18 rfl (by decide +kernel) rfl rfl ⟨(Nat.le_of_ble_eq_true rfl), (Nat.le_of_ble_eq_true rfl)⟩ ⟨(Nat.le_of_ble_eq_true rfl), (Nat.le_of_ble_eq_true rfl)⟩ rfl rfl (Nat.le_of_ble_eq_true rfl) dX2_init_61 (wl := ([(a, .inr (2, [.ref (u0 0), .ref (u1 0), .ref (u2 0), .ref (hist), .null, .int 0, .int 0]))] ++ (wC kI u0 C0 ++ (wC kI u1 C0 ++ (wC kI u2 C0 ++ ([(hist, .inl (kQ, 4, .inr (.inr (.inr (.inr (va_up (fun _ => none) 0 (some (u3 0))))))))] ++ wC kI u3 C0)))))) (wr := []) rfl (fun u4 hu4 => ?_)
  subst hu4
  refine z_w (w' := ([(a, .inr (2, [.ref (u0 0), .ref (u1 0), .ref (u2 0), .ref (hist), .null, .int 0, .int 0]))] ++ (wC kI u0 C0 ++ (wC kI u1 C0 ++ (wC kI u2 C0 ++ ([(hist, .inl (kQ, 4, .inr (.inr (.inr (.inr (va_up (fun _ => none) 0 (some (u3 0))))))))] ++ (wC kI u3 C0 ++ wC kI u4 C0))))))) rfl ?_
  refine z_aast (r := (RX0, TX0, 19)) X 16 2 22 0 rfl rfl rfl rfl (vin_c (by decide +kernel)) (j := 1) (by decide +kernel) (w' := ([(a, .inr (2, [.ref (u0 0), .ref (u1 0), .ref (u2 0), .ref (hist), .null, .int 0, .int 0]))] ++ (wC kI u0 C0 ++ (wC kI u1 C0 ++ (wC kI u2 C0 ++ ([(hist, .inl (kQ, 4, .inr (.inr (.inr (.inr (va_up (va_up (fun _ => none) 0 (some (u3 0))) 1 (some (u4 0))))))))] ++ (wC kI u3 C0 ++ wC kI u4 C0))))))) rfl dX2_init_64 ?_
  refine z_iinc (v := (2 : Int32)) (lv' := [(1, .int 2), (0, .ref (a))]) X dX2_init_65 0 rfl (by decide) (Nat.le_of_ble_eq_true rfl) rfl ?_
  refine z_goto (tgt := 47) X dX2_init_68 (by decide) ?_
  refine z_iload_n X dX2_init_47 0 rfl ?_
  refine z_iconst (v := (4 : Int32)) X dX2_init_48 (by decide) ?_
  refine z_icmp_ge (tgt := 71) X dX2_init_49 (by decide) (fun c => absurd c (by decide)) (fun _ => ?_)
  refine z_aload_n X dX2_init_52 1 rfl ?_
  refine z_get X inW2 rfl 0 rfl 3 (by decide) wd1_135 rfl rfl dX2_init_53 ?_
  refine z_iload_n X dX2_init_56 0 rfl ?_
  refine z_new X inW0 tyX0 tyX0_ok wd1_15 wd1_16 wd1_2 rfl [.null, .null, .int 0, .null, .int 0, .int 0, .null, .int 0, .int 0, .int 0, .int 0, .int 0, .int 0, .int 0, .int 0, .int 0, .long 0, .int 0, .int 0] (fun j hj => by revert j; exact hfsX0) (Nat.le_of_ble_eq_true rfl) (Nat.le_of_ble_eq_true rfl) (fun q5 => ([(a, .inr (2, [.ref (u0 0), .ref (u1 0), .ref (u2 0), .ref (hist), .null, .int 0, .int 0]))] ++ (wC kI u0 C0 ++ (wC kI u1 C0 ++ (wC kI u2 C0 ++ ([(hist, .inl (kQ, 4, .inr (.inr (.inr (.inr (va_up (va_up (fun _ => none) 0 (some (u3 0))) 1 (some (u4 0))))))))] ++ (wC kI u3 C0 ++ (wC kI u4 C0 ++ [(q5, .inr (0, [.null, .null, .int 0, .null, .int 0, .int 0, .null, .int 0, .int 0, .int 0, .int 0, .int 0, .int 0, .int 0, .int 0, .int 0, .long 0, .int 0, .int 0]))])))))))) (fun _ => rfl) dX2_init_57 (fun q5 => ?_)
  refine z_dup X dX2_init_60 rfl ?_
  refine z_callI X (c_C_init l D kI kC kQ q5) wd1_19 wd1_2 wd1_17 wd1_18 rfl (by decide +kernel) rfl rfl ⟨(Nat.le_of_ble_eq_true rfl), (Nat.le_of_ble_eq_true rfl)⟩ ⟨(Nat.le_of_ble_eq_true rfl), (Nat.le_of_ble_eq_true rfl)⟩ rfl rfl (Nat.le_of_ble_eq_true rfl) dX2_init_61 (wl := ([(a, .inr (2, [.ref (u0 0), .ref (u1 0), .ref (u2 0), .ref (hist), .null, .int 0, .int 0]))] ++ (wC kI u0 C0 ++ (wC kI u1 C0 ++ (wC kI u2 C0 ++ ([(hist, .inl (kQ, 4, .inr (.inr (.inr (.inr (va_up (va_up (fun _ => none) 0 (some (u3 0))) 1 (some (u4 0))))))))] ++ (wC kI u3 C0 ++ wC kI u4 C0))))))) (wr := []) rfl (fun u5 hu5 => ?_)
  subst hu5
  refine z_w (w' := ([(a, .inr (2, [.ref (u0 0), .ref (u1 0), .ref (u2 0), .ref (hist), .null, .int 0, .int 0]))] ++ (wC kI u0 C0 ++ (wC kI u1 C0 ++ (wC kI u2 C0 ++ ([(hist, .inl (kQ, 4, .inr (.inr (.inr (.inr (va_up (va_up (fun _ => none) 0 (some (u3 0))) 1 (some (u4 0))))))))] ++ (wC kI u3 C0 ++ (wC kI u4 C0 ++ wC kI u5 C0)))))))) rfl ?_
  refine z_aast (r := (RX0, TX0, 19)) X 16 2 27 0 rfl rfl rfl rfl (vin_c (by decide +kernel)) (j := 2) (by decide +kernel) (w' := ([(a, .inr (2, [.ref (u0 0), .ref (u1 0), .ref (u2 0), .ref (hist), .null, .int 0, .int 0]))] ++ (wC kI u0 C0 ++ (wC kI u1 C0 ++ (wC kI u2 C0 ++ ([(hist, .inl (kQ, 4, .inr (.inr (.inr (.inr (va_up (va_up (va_up (fun _ => none) 0 (some (u3 0))) 1 (some (u4 0))) 2 (some (u5 0))))))))] ++ (wC kI u3 C0 ++ (wC kI u4 C0 ++ wC kI u5 C0)))))))) rfl dX2_init_64 ?_
  refine z_iinc (v := (3 : Int32)) (lv' := [(1, .int 3), (0, .ref (a))]) X dX2_init_65 0 rfl (by decide) (Nat.le_of_ble_eq_true rfl) rfl ?_
  refine z_goto (tgt := 47) X dX2_init_68 (by decide) ?_
  refine z_iload_n X dX2_init_47 0 rfl ?_
  refine z_iconst (v := (4 : Int32)) X dX2_init_48 (by decide) ?_
  refine z_icmp_ge (tgt := 71) X dX2_init_49 (by decide) (fun c => absurd c (by decide)) (fun _ => ?_)
  refine z_aload_n X dX2_init_52 1 rfl ?_
  refine z_get X inW2 rfl 0 rfl 3 (by decide) wd1_135 rfl rfl dX2_init_53 ?_
  refine z_iload_n X dX2_init_56 0 rfl ?_
  refine z_new X inW0 tyX0 tyX0_ok wd1_15 wd1_16 wd1_2 rfl [.null, .null, .int 0, .null, .int 0, .int 0, .null, .int 0, .int 0, .int 0, .int 0, .int 0, .int 0, .int 0, .int 0, .int 0, .long 0, .int 0, .int 0] (fun j hj => by revert j; exact hfsX0) (Nat.le_of_ble_eq_true rfl) (Nat.le_of_ble_eq_true rfl) (fun q6 => ([(a, .inr (2, [.ref (u0 0), .ref (u1 0), .ref (u2 0), .ref (hist), .null, .int 0, .int 0]))] ++ (wC kI u0 C0 ++ (wC kI u1 C0 ++ (wC kI u2 C0 ++ ([(hist, .inl (kQ, 4, .inr (.inr (.inr (.inr (va_up (va_up (va_up (fun _ => none) 0 (some (u3 0))) 1 (some (u4 0))) 2 (some (u5 0))))))))] ++ (wC kI u3 C0 ++ (wC kI u4 C0 ++ (wC kI u5 C0 ++ [(q6, .inr (0, [.null, .null, .int 0, .null, .int 0, .int 0, .null, .int 0, .int 0, .int 0, .int 0, .int 0, .int 0, .int 0, .int 0, .int 0, .long 0, .int 0, .int 0]))]))))))))) (fun _ => rfl) dX2_init_57 (fun q6 => ?_)
  refine z_dup X dX2_init_60 rfl ?_
  refine z_callI X (c_C_init l D kI kC kQ q6) wd1_19 wd1_2 wd1_17 wd1_18 rfl (by decide +kernel) rfl rfl ⟨(Nat.le_of_ble_eq_true rfl), (Nat.le_of_ble_eq_true rfl)⟩ ⟨(Nat.le_of_ble_eq_true rfl), (Nat.le_of_ble_eq_true rfl)⟩ rfl rfl (Nat.le_of_ble_eq_true rfl) dX2_init_61 (wl := ([(a, .inr (2, [.ref (u0 0), .ref (u1 0), .ref (u2 0), .ref (hist), .null, .int 0, .int 0]))] ++ (wC kI u0 C0 ++ (wC kI u1 C0 ++ (wC kI u2 C0 ++ ([(hist, .inl (kQ, 4, .inr (.inr (.inr (.inr (va_up (va_up (va_up (fun _ => none) 0 (some (u3 0))) 1 (some (u4 0))) 2 (some (u5 0))))))))] ++ (wC kI u3 C0 ++ (wC kI u4 C0 ++ wC kI u5 C0)))))))) (wr := []) rfl (fun u6 hu6 => ?_)
  subst hu6
  refine z_w (w' := ([(a, .inr (2, [.ref (u0 0), .ref (u1 0), .ref (u2 0), .ref (hist), .null, .int 0, .int 0]))] ++ (wC kI u0 C0 ++ (wC kI u1 C0 ++ (wC kI u2 C0 ++ ([(hist, .inl (kQ, 4, .inr (.inr (.inr (.inr (va_up (va_up (va_up (fun _ => none) 0 (some (u3 0))) 1 (some (u4 0))) 2 (some (u5 0))))))))] ++ (wC kI u3 C0 ++ (wC kI u4 C0 ++ (wC kI u5 C0 ++ wC kI u6 C0))))))))) rfl ?_
  refine z_aast (r := (RX0, TX0, 19)) X 16 2 32 0 rfl rfl rfl rfl (vin_c (by decide +kernel)) (j := 3) (by decide +kernel) (w' := ([(a, .inr (2, [.ref (u0 0), .ref (u1 0), .ref (u2 0), .ref (hist), .null, .int 0, .int 0]))] ++ (wC kI u0 C0 ++ (wC kI u1 C0 ++ (wC kI u2 C0 ++ ([(hist, .inl (kQ, 4, .inr (.inr (.inr (.inr (va_up (va_up (va_up (va_up (fun _ => none) 0 (some (u3 0))) 1 (some (u4 0))) 2 (some (u5 0))) 3 (some (u6 0))))))))] ++ (wC kI u3 C0 ++ (wC kI u4 C0 ++ (wC kI u5 C0 ++ wC kI u6 C0))))))))) rfl dX2_init_64 ?_
  refine z_iinc (v := (4 : Int32)) (lv' := [(1, .int 4), (0, .ref (a))]) X dX2_init_65 0 rfl (by decide) (Nat.le_of_ble_eq_true rfl) rfl ?_
  refine z_goto (tgt := 47) X dX2_init_68 (by decide) ?_
  refine z_iload_n X dX2_init_47 0 rfl ?_
  refine z_iconst (v := (4 : Int32)) X dX2_init_48 (by decide) ?_
  refine z_icmp_ge (tgt := 71) X dX2_init_49 (by decide) (fun _ => ?_) (fun c => absurd (by decide) c)
  refine z_aload_n X dX2_init_71 1 rfl ?_
  refine z_new X inW1 tyX1 tyX1_ok wd1_109 wd1_110 wd1_3 rfl [.null, .int 0, .null, .int 0] (fun j hj => by revert j; exact hfsX1) (Nat.le_of_ble_eq_true rfl) (Nat.le_of_ble_eq_true rfl) (fun q7 => ([(a, .inr (2, [.ref (u0 0), .ref (u1 0), .ref (u2 0), .ref (hist), .null, .int 0, .int 0]))] ++ (wC kI u0 C0 ++ (wC kI u1 C0 ++ (wC kI u2 C0 ++ ([(hist, .inl (kQ, 4, .inr (.inr (.inr (.inr (va_up (va_up (va_up (va_up (fun _ => none) 0 (some (u3 0))) 1 (some (u4 0))) 2 (some (u5 0))) 3 (some (u6 0))))))))] ++ (wC kI u3 C0 ++ (wC kI u4 C0 ++ (wC kI u5 C0 ++ (wC kI u6 C0 ++ [(q7, .inr (1, [.null, .int 0, .null, .int 0]))])))))))))) (fun _ => rfl) dX2_init_72 (fun q7 => ?_)
  refine z_dup X dX2_init_75 rfl ?_
  refine z_callI X (c_T_init l D kI kC kQ q7) wd1_113 wd1_3 wd1_111 wd1_112 rfl (by decide +kernel) rfl rfl ⟨(Nat.le_of_ble_eq_true rfl), (Nat.le_of_ble_eq_true rfl)⟩ ⟨(Nat.le_of_ble_eq_true rfl), (Nat.le_of_ble_eq_true rfl)⟩ rfl rfl (Nat.le_of_ble_eq_true rfl) dX2_init_76 (wl := ([(a, .inr (2, [.ref (u0 0), .ref (u1 0), .ref (u2 0), .ref (hist), .null, .int 0, .int 0]))] ++ (wC kI u0 C0 ++ (wC kI u1 C0 ++ (wC kI u2 C0 ++ ([(hist, .inl (kQ, 4, .inr (.inr (.inr (.inr (va_up (va_up (va_up (va_up (fun _ => none) 0 (some (u3 0))) 1 (some (u4 0))) 2 (some (u5 0))) 3 (some (u6 0))))))))] ++ (wC kI u3 C0 ++ (wC kI u4 C0 ++ (wC kI u5 C0 ++ wC kI u6 C0))))))))) (wr := []) rfl (fun u7 hu7 => ?_)
  subst hu7
  refine z_w (w' := ([(a, .inr (2, [.ref (u0 0), .ref (u1 0), .ref (u2 0), .ref (hist), .null, .int 0, .int 0]))] ++ (wC kI u0 C0 ++ (wC kI u1 C0 ++ (wC kI u2 C0 ++ ([(hist, .inl (kQ, 4, .inr (.inr (.inr (.inr (va_up (va_up (va_up (va_up (fun _ => none) 0 (some (u3 0))) 1 (some (u4 0))) 2 (some (u5 0))) 3 (some (u6 0))))))))] ++ (wC kI u3 C0 ++ (wC kI u4 C0 ++ (wC kI u5 C0 ++ (wC kI u6 C0 ++ wT kI kC u7 T0)))))))))) rfl ?_
  refine z_putF X inW2 rfl tyX2 tyX2_ok nmX2 0 rfl 4 (by decide) wd1_136 rfl rfl hname rfl rfl rfl (Nat.le_of_ble_eq_true rfl) (w' := ([(a, .inr (2, [.ref (u0 0), .ref (u1 0), .ref (u2 0), .ref (hist), .ref (u7 0), .int 0, .int 0]))] ++ (wC kI u0 C0 ++ (wC kI u1 C0 ++ (wC kI u2 C0 ++ ([(hist, .inl (kQ, 4, .inr (.inr (.inr (.inr (va_up (va_up (va_up (va_up (fun _ => none) 0 (some (u3 0))) 1 (some (u4 0))) 2 (some (u5 0))) 3 (some (u6 0))))))))] ++ (wC kI u3 C0 ++ (wC kI u4 C0 ++ (wC kI u5 C0 ++ (wC kI u6 C0 ++ wT kI kC u7 T0)))))))))) rfl dX2_init_79 ?_
  refine z_same 16 (x := (4, .inr (.inr (.inr (.inr (va_up (va_up (va_up (va_up (fun _ => none) 0 (some (u3 0))) 1 (some (u4 0))) 2 (some (u5 0))) 3 (some (u6 0)))))))) (y := (4, .inr (.inr (.inr (.inr (fun j => some ((fun i => [u0, u1, u2, u3, u4, u5, u6].getD i (fun _ => 0)) (3 + j) 0))))))) rfl (cell4 (by intro j hj; match j, hj with | 0, _ => rfl | 1, _ => rfl | 2, _ => rfl | 3, _ => rfl)) (w' := ([(a, .inr (2, [.ref (u0 0), .ref (u1 0), .ref (u2 0), .ref (hist), .ref (u7 0), .int 0, .int 0]))] ++ (wC kI u0 C0 ++ (wC kI u1 C0 ++ (wC kI u2 C0 ++ ([(hist, .inl (kQ, 4, .inr (.inr (.inr (.inr (fun j => some ((fun i => [u0, u1, u2, u3, u4, u5, u6].getD i (fun _ => 0)) (3 + j) 0)))))))] ++ (wC kI u3 C0 ++ (wC kI u4 C0 ++ (wC kI u5 C0 ++ (wC kI u6 C0 ++ wT kI kC u7 T0)))))))))) rfl ?_
  refine z_perm (w' := wS kI kC kQ (fun i => [a, hist].getD i 0) u7 (fun i => [u0, u1, u2, u3, u4, u5, u6].getD i (fun _ => 0)) S0) [0, 16, 37, 38, 39, 1, 2, 3, 4, 5, 6, 7, 8, 9, 10, 11, 12, 13, 14, 15, 17, 18, 19, 20, 21, 22, 23, 24, 25, 26, 27, 28, 29, 30, 31, 32, 33, 34, 35, 36] (by decide) rfl rfl ?_
  exact z_vret X hQ rfl (((fun i => [a, hist].getD i 0), u7), (fun i => [u0, u1, u2, u3, u4, u5, u6].getD i (fun _ => 0))) rfl rfl dX2_init_82
