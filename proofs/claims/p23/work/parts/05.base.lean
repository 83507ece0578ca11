/-! static fields that nobody writes, and what the tables say of them -/
def leastS : Nat → Int32 := fun j => [50, 0, 1, 10, 0, 1, 1].getD j 0
def mostS : Nat → Int32 := fun j => [1000, 200, 20, 500, 100, 50, 10].getD j 0
def firstS : Nat → Int32 := fun j => [200, 40, 5, 100, 2, 10, 4].getD j 0
def TB (nm : String) (f : Nat → Int32) (A : Nat → Prop) (U : State) (H : Heap) : Prop := ∃ t : Nat, va_Z "ShadowLatches$Circuit" nm "[I" (.ref t) A U H ∧ va_T .int t 7 (fun j => .int (f j)) A U H
def FC (k : ClassId) (A : Nat → Prop) (H : Heap) (t : Nat) : Prop := ∃ cell : Cell, H[t]? = some cell ∧ cell.cls = k ∧ cell.vm.isStatics = false ∧ cell.vm ≠ .unknown ∧ cell.slots = (vp_cell k (7, .inl firstS)).slots ∧ ¬ A t
def TF (A : Nat → Prop) (U : State) (H : Heap) : Prop := ∃ (t : Nat) (k : ClassId), va_Z "ShadowLatches$Circuit" "FIRST_SETTINGS" "[I" (.ref t) A U H ∧ U.vm.findClass "[I" = some k ∧ FC k A H t
def ST (A : Nat → Prop) (U : State) (H : Heap) : Prop := TB "LEAST_SETTINGS" leastS A U H ∧ TB "MOST_SETTINGS" mostS A U H ∧ TF A U H ∧ va_Nw (.castable "[I" "java/lang/Cloneable") U ∧ va_AO "ShadowLatches$Circuit" U
theorem ST.moved {A : Nat → Prop} {u U : State} {H : Heap} (hvm : u.vm.Alike U.vm) (h : ST A u H) : ST A U H := by
  obtain ⟨⟨t1, a1, b1⟩, ⟨t2, a2, b2⟩, ⟨t3, k, a3, b3, c3⟩, h4, h5⟩ := h
  exact ⟨⟨t1, a1.moved hvm, b1.moved hvm⟩, ⟨t2, a2.moved hvm, b2.moved hvm⟩, ⟨t3, k, a3.moved hvm, by rw [hvm.findClass]; exact b3, c3⟩, va_tabs rfl (rfl : (u.setVm U.vm).vm = U.vm) (by rw [Cond.castable_setVm hvm]; exact h4), h5.moved hvm⟩
theorem ST.kept {A : Nat → Prop} {U : State} {H H1 : Heap} (h : ST A U H) (hq : ∀ a : Nat, a < H.size → ¬ A a → H1[a]? = H[a]?) : ST A U H1 := by
  obtain ⟨⟨t1, a1, b1⟩, ⟨t2, a2, b2⟩, ⟨t3, k, a3, b3, cell, c3, e3, f3, g3, h3, d3⟩, h4, h5⟩ := h
  exact ⟨⟨t1, a1.kept hq, b1.kept hq⟩, ⟨t2, a2.kept hq, b2.kept hq⟩, ⟨t3, k, a3.kept hq, b3, cell, by rw [hq t3 (Array.getElem?_eq_some_iff.mp c3).1 d3]; exact c3, e3, f3, g3, h3, d3⟩, h4, h5⟩
theorem ST.narrow {A B : Nat → Prop} {U : State} {H : Heap} (h : ST A U H) (hAB : ∀ q, B q → A q) : ST B U H := by
  obtain ⟨⟨t1, a1, b1⟩, ⟨t2, a2, b2⟩, ⟨t3, k, a3, b3, cell, c3, e3, f3, g3, h3, d3⟩, h4, h5⟩ := h
  exact ⟨⟨t1, a1.narrow hAB, b1.narrow hAB⟩, ⟨t2, a2.narrow hAB, b2.narrow hAB⟩, ⟨t3, k, a3.narrow hAB, b3, cell, c3, e3, f3, g3, h3, fun z => d3 (hAB t3 z)⟩, h4, h5⟩
/-! the judgement Z: from every heap that holds the world w, with the locals lv, the machine at pc comes to Q -/
abbrev ARR : Type := Nat → Nat → Int32
def sA (M : ARR) (i k : Nat) (v : Int32) : ARR := fun a => if a = i then upd (M i) k v else M a
abbrev CS : Type := ARR × Int64
def tysG (kI kC kQ : ClassId) : List (ClassId × FieldType) := [(kI, .int), (kC, .char), (kQ, .object "ShadowLatches$Circuit")]
def CX (p : Program) (s : State) (m : MethodId) (args : Array Value) (meth : Method) (c : Code) (D : va_G) (ty : List (ClassId × FieldType)) (A : Nat → Prop) (cc : ByteArray) (nL : Nat) (ret : Option FieldType) (own : String) : Prop :=
  p.tables.exec = Jvm.exec ∧ c.code = cc ∧ meth.sig.returnType = ret ∧ c.maxLocals = nL ∧ s.vm.findClass own = some m.cls ∧ (∀ w ∈ WS, w.before args s = true) ∧ meth.locks = false ∧ va_K D vwCl ty s ∧ (∀ q : Nat, s.heap.size ≤ q → A q) ∧ ST A s s.heap
def Z (p : Program) (l : Launch) (e : Env) (R : Room) (s : State) (m : MethodId) (args : Array Value) (below : List Frame) (meth : Method) (c : Code) (D : va_G) (A : Nat → Prop) (nL ce sl : Nat) (Q : State → Prop) (w : va_W) (lv : List (Nat × Value)) (pc : Nat) (st : List Value) : Prop :=
  ∀ (H : Heap) (locs : List Loc) (ls : Array Slot), va_P D vwCl w H → va_D A w → va_S A s.heap H locs → lv_has ls nL lv → W p l e R s m args below meth c H locs ce sl Q (F0 m pc ls st)
theorem vin_c {i : Int32} {n : Nat} (h : (decide (0 ≤ i) && decide (i.toNatClampNeg < n)) = true) : vp_in i n := by
  simp only [Bool.and_eq_true, decide_eq_true_eq] at h
  rintro (q | q)
  · exact absurd h.1 (Int32.not_le.mpr q)
  · omega
section
variable {p : Program} {l : Launch} {e : Env} {R : Room} {s : State} {m : MethodId} {args : Array Value} {below : List Frame} {meth : Method} {c : Code} {D : va_G} {ty : List (ClassId × FieldType)} {A : Nat → Prop} {cc : ByteArray} {nL ce sl : Nat} {ret : Option FieldType} {own : String} {Q : State → Prop} {w : va_W} {lv : List (Nat × Value)} {pc : Nat} {st : List Value}
theorem CX.x (X : CX p s m args meth c D ty A cc nL ret own) : p.tables.exec = Jvm.exec := X.1
theorem CX.b (X : CX p s m args meth c D ty A cc nL ret own) : c.code = cc := X.2.1
theorem CX.r (X : CX p s m args meth c D ty A cc nL ret own) : meth.sig.returnType = ret := X.2.2.1
theorem CX.ml (X : CX p s m args meth c D ty A cc nL ret own) : c.maxLocals = nL := X.2.2.2.1
theorem CX.ow (X : CX p s m args meth c D ty A cc nL ret own) : s.vm.findClass own = some m.cls := X.2.2.2.2.1
theorem CX.ts (X : CX p s m args meth c D ty A cc nL ret own) : ∀ w ∈ WS, w.before args s = true := X.2.2.2.2.2.1
theorem CX.lk (X : CX p s m args meth c D ty A cc nL ret own) : meth.locks = false := X.2.2.2.2.2.2.1
theorem CX.K (X : CX p s m args meth c D ty A cc nL ret own) : va_K D vwCl ty s := X.2.2.2.2.2.2.2.1
theorem CX.hA (X : CX p s m args meth c D ty A cc nL ret own) : ∀ q : Nat, s.heap.size ≤ q → A q := X.2.2.2.2.2.2.2.2.1
theorem CX.S (X : CX p s m args meth c D ty A cc nL ret own) : ST A s s.heap := X.2.2.2.2.2.2.2.2.2
theorem CX.fix (X : CX p s m args meth c D ty A cc nL ret own) : CallFix p m c cc nL s args WS own := ⟨X.x, X.b, X.ml, X.ow, X.ts⟩
theorem Z.lift {pc' : Nat} {st' : List Value} (h : ∀ (H : Heap) (locs : List Loc) (ls : Array Slot), W p l e R s m args below meth c H locs ce sl Q (F0 m pc' ls st') → W p l e R s m args below meth c H locs ce sl Q (F0 m pc ls st)) (k : Z p l e R s m args below meth c D A nL ce sl Q w lv pc' st') : Z p l e R s m args below meth c D A nL ce sl Q w lv pc st := fun H locs ls hP hD hS hl => h H locs ls (k H locs ls hP hD hS hl)
theorem z_iconst (X : CX p s m args meth c D ty A cc nL ret own) {n : Int} {v : Int32} (hdg : decode cc pc = .ok (.iconst n, 1)) (hv : Int32.ofInt n = v) (k : Z p l e R s m args below meth c D A nL ce sl Q w lv (pc + 1) (.int v :: st)) : Z p l e R s m args below meth c D A nL ce sl Q w lv pc (st) := Z.lift (fun _ _ _ q => lv_iconst X.x X.b hdg hv q) k
theorem z_bipush (X : CX p s m args meth c D ty A cc nL ret own) {n : Int} {v : Int32} (hdg : decode cc pc = .ok (.bipush n, 2)) (hv : (Int8.ofInt n).toInt32 = v) (k : Z p l e R s m args below meth c D A nL ce sl Q w lv (pc + 2) (.int v :: st)) : Z p l e R s m args below meth c D A nL ce sl Q w lv pc (st) := Z.lift (fun _ _ _ q => lv_bipush X.x X.b hdg hv q) k
theorem z_sipush (X : CX p s m args meth c D ty A cc nL ret own) {n : Int} {v : Int32} (hdg : decode cc pc = .ok (.sipush n, 3)) (hv : (Int16.ofInt n).toInt32 = v) (k : Z p l e R s m args below meth c D A nL ce sl Q w lv (pc + 3) (.int v :: st)) : Z p l e R s m args below meth c D A nL ce sl Q w lv pc (st) := Z.lift (fun _ _ _ q => lv_sipush X.x X.b hdg hv q) k
theorem z_lconst (X : CX p s m args meth c D ty A cc nL ret own) {n : Fin 2} {v : Int64} (hdg : decode cc pc = .ok (.lconst n, 1)) (hv : Int64.ofNat n = v) (k : Z p l e R s m args below meth c D A nL ce sl Q w lv (pc + 1) (.long v :: st)) : Z p l e R s m args below meth c D A nL ce sl Q w lv pc (st) := Z.lift (fun _ _ _ q => lv_lconst X.x X.b hdg hv q) k
theorem z_ldc2 (X : CX p s m args meth c D ty A cc nL ret own) {index : Nat} {v : Int64} (hdg : decode cc pc = .ok (.ldc2_w index, 3)) (hc : Cond.constantLong own index v ∈ WS) (k : Z p l e R s m args below meth c D A nL ce sl Q w lv (pc + 3) (.long v :: st)) : Z p l e R s m args below meth c D A nL ce sl Q w lv pc (st) := Z.lift (fun _ _ _ q => lv_ldc2 X.x X.b X.ow (X.ts _ hc) hdg q) k
theorem z_ldcw (X : CX p s m args meth c D ty A cc nL ret own) {index : Nat} {v : Int32} (hdg : decode cc pc = .ok (.ldc_w index, 3)) (hc : Cond.constant own index v ∈ WS) (k : Z p l e R s m args below meth c D A nL ce sl Q w lv (pc + 3) (.int v :: st)) : Z p l e R s m args below meth c D A nL ce sl Q w lv pc (st) := Z.lift (fun _ _ _ q => lv_ldcw X.x X.b X.ow (X.ts _ hc) hdg q) k
theorem z_ldc (X : CX p s m args meth c D ty A cc nL ret own) {index : Nat} {v : Int32} (hdg : decode cc pc = .ok (.ldc index, 2)) (hc : Cond.constant own index v ∈ WS) (k : Z p l e R s m args below meth c D A nL ce sl Q w lv (pc + 2) (.int v :: st)) : Z p l e R s m args below meth c D A nL ce sl Q w lv pc (st) := Z.lift (fun _ _ _ q => lv_ldc X.x X.b X.ow (X.ts _ hc) hdg q) k
theorem z_iadd (X : CX p s m args meth c D ty A cc nL ret own) {x y : Int32} (hdg : decode cc pc = .ok (.iadd, 1)) (k : Z p l e R s m args below meth c D A nL ce sl Q w lv (pc + 1) (.int (x + y) :: st)) : Z p l e R s m args below meth c D A nL ce sl Q w lv pc (.int y :: .int x :: st) := Z.lift (fun _ _ _ q => lv_iadd X.x X.b hdg q) k
theorem z_isub (X : CX p s m args meth c D ty A cc nL ret own) {x y : Int32} (hdg : decode cc pc = .ok (.isub, 1)) (k : Z p l e R s m args below meth c D A nL ce sl Q w lv (pc + 1) (.int (x - y) :: st)) : Z p l e R s m args below meth c D A nL ce sl Q w lv pc (.int y :: .int x :: st) := Z.lift (fun _ _ _ q => lv_isub X.x X.b hdg q) k
theorem z_imul (X : CX p s m args meth c D ty A cc nL ret own) {x y : Int32} (hdg : decode cc pc = .ok (.imul, 1)) (k : Z p l e R s m args below meth c D A nL ce sl Q w lv (pc + 1) (.int (x * y) :: st)) : Z p l e R s m args below meth c D A nL ce sl Q w lv pc (.int y :: .int x :: st) := Z.lift (fun _ _ _ q => lv_imul X.x X.b hdg q) k
theorem z_iand (X : CX p s m args meth c D ty A cc nL ret own) {x y : Int32} (hdg : decode cc pc = .ok (.iand, 1)) (k : Z p l e R s m args below meth c D A nL ce sl Q w lv (pc + 1) (.int (x &&& y) :: st)) : Z p l e R s m args below meth c D A nL ce sl Q w lv pc (.int y :: .int x :: st) := Z.lift (fun _ _ _ q => lv_iand X.x X.b hdg q) k
theorem z_ior (X : CX p s m args meth c D ty A cc nL ret own) {x y : Int32} (hdg : decode cc pc = .ok (.ior, 1)) (k : Z p l e R s m args below meth c D A nL ce sl Q w lv (pc + 1) (.int (x ||| y) :: st)) : Z p l e R s m args below meth c D A nL ce sl Q w lv pc (.int y :: .int x :: st) := Z.lift (fun _ _ _ q => lv_ior X.x X.b hdg q) k
theorem z_idiv (X : CX p s m args meth c D ty A cc nL ret own) {x y : Int32} (hdg : decode cc pc = .ok (.idiv, 1)) (hne : ¬ y = 0) (k : Z p l e R s m args below meth c D A nL ce sl Q w lv (pc + 1) (.int (x / y) :: st)) : Z p l e R s m args below meth c D A nL ce sl Q w lv pc (.int y :: .int x :: st) := Z.lift (fun _ _ _ q => lv_idiv X.x X.b hdg hne q) k
theorem z_irem (X : CX p s m args meth c D ty A cc nL ret own) {x y : Int32} (hdg : decode cc pc = .ok (.irem, 1)) (hne : ¬ y = 0) (k : Z p l e R s m args below meth c D A nL ce sl Q w lv (pc + 1) (.int (x - x / y * y) :: st)) : Z p l e R s m args below meth c D A nL ce sl Q w lv pc (.int y :: .int x :: st) := Z.lift (fun _ _ _ q => lv_irem X.x X.b hdg hne q) k
theorem z_ishl (X : CX p s m args meth c D ty A cc nL ret own) {x y : Int32} (hdg : decode cc pc = .ok (.ishl, 1)) (k : Z p l e R s m args below meth c D A nL ce sl Q w lv (pc + 1) (.int (x <<< (y &&& 31)) :: st)) : Z p l e R s m args below meth c D A nL ce sl Q w lv pc (.int y :: .int x :: st) := Z.lift (fun _ _ _ q => lv_ishl X.x X.b hdg q) k
theorem z_ishr (X : CX p s m args meth c D ty A cc nL ret own) {x y : Int32} (hdg : decode cc pc = .ok (.ishr, 1)) (k : Z p l e R s m args below meth c D A nL ce sl Q w lv (pc + 1) (.int (x >>> (y &&& 31)) :: st)) : Z p l e R s m args below meth c D A nL ce sl Q w lv pc (.int y :: .int x :: st) := Z.lift (fun _ _ _ q => lv_ishr X.x X.b hdg q) k
theorem z_iushr (X : CX p s m args meth c D ty A cc nL ret own) {x y : Int32} (hdg : decode cc pc = .ok (.iushr, 1)) (k : Z p l e R s m args below meth c D A nL ce sl Q w lv (pc + 1) (.int ((x.toUInt32 >>> (y.toUInt32 &&& Int32.toUInt32 31)).toInt32) :: st)) : Z p l e R s m args below meth c D A nL ce sl Q w lv pc (.int y :: .int x :: st) := Z.lift (fun _ _ _ q => lv_iushr X.x X.b hdg rfl q) k
theorem z_ladd (X : CX p s m args meth c D ty A cc nL ret own) {x y : Int64} (hdg : decode cc pc = .ok (.ladd, 1)) (k : Z p l e R s m args below meth c D A nL ce sl Q w lv (pc + 1) (.long (x + y) :: st)) : Z p l e R s m args below meth c D A nL ce sl Q w lv pc (.long y :: .long x :: st) := Z.lift (fun _ _ _ q => lv_ladd X.x X.b hdg q) k
theorem z_lsub (X : CX p s m args meth c D ty A cc nL ret own) {x y : Int64} (hdg : decode cc pc = .ok (.lsub, 1)) (k : Z p l e R s m args below meth c D A nL ce sl Q w lv (pc + 1) (.long (x - y) :: st)) : Z p l e R s m args below meth c D A nL ce sl Q w lv pc (.long y :: .long x :: st) := Z.lift (fun _ _ _ q => lv_lsub X.x X.b hdg q) k
theorem z_ldiv (X : CX p s m args meth c D ty A cc nL ret own) {x y : Int64} (hdg : decode cc pc = .ok (.ldiv, 1)) (hne : ¬ y = 0) (k : Z p l e R s m args below meth c D A nL ce sl Q w lv (pc + 1) (.long (x / y) :: st)) : Z p l e R s m args below meth c D A nL ce sl Q w lv pc (.long y :: .long x :: st) := Z.lift (fun _ _ _ q => lv_ldiv X.x X.b hdg hne q) k
theorem z_lcmp (X : CX p s m args meth c D ty A cc nL ret own) {x y : Int64} (hdg : decode cc pc = .ok (.lcmp, 1)) (k : Z p l e R s m args below meth c D A nL ce sl Q w lv (pc + 1) (.int (lg_cmp x y) :: st)) : Z p l e R s m args below meth c D A nL ce sl Q w lv pc (.long y :: .long x :: st) := Z.lift (fun _ _ _ q => W.lcmp X.x X.b hdg q) k
theorem z_i2l (X : CX p s m args meth c D ty A cc nL ret own) {x : Int32} (hdg : decode cc pc = .ok (.i2l, 1)) (k : Z p l e R s m args below meth c D A nL ce sl Q w lv (pc + 1) (.long x.toInt64 :: st)) : Z p l e R s m args below meth c D A nL ce sl Q w lv pc (.int x :: st) := Z.lift (fun _ _ _ q => lv_i2l X.x X.b hdg rfl q) k
theorem z_l2i (X : CX p s m args meth c D ty A cc nL ret own) {x : Int64} (hdg : decode cc pc = .ok (.l2i, 1)) (k : Z p l e R s m args below meth c D A nL ce sl Q w lv (pc + 1) (.int x.toInt32 :: st)) : Z p l e R s m args below meth c D A nL ce sl Q w lv pc (.long x :: st) := Z.lift (fun _ _ _ q => lv_l2i X.x X.b hdg rfl q) k
theorem z_i2c (X : CX p s m args meth c D ty A cc nL ret own) {x : Int32} (hdg : decode cc pc = .ok (.i2c, 1)) (k : Z p l e R s m args below meth c D A nL ce sl Q w lv (pc + 1) (.int (x.toUInt32 % 65536).toInt32 :: st)) : Z p l e R s m args below meth c D A nL ce sl Q w lv pc (.int x :: st) := Z.lift (fun _ _ _ q => lv_i2c X.x X.b hdg rfl q) k
theorem z_dup (X : CX p s m args meth c D ty A cc nL ret own) {va : Value} (hdg : decode cc pc = .ok (.dup, 1)) (hva : va.category = 1) (k : Z p l e R s m args below meth c D A nL ce sl Q w lv (pc + 1) (va :: va :: st)) : Z p l e R s m args below meth c D A nL ce sl Q w lv pc (va :: st) := Z.lift (fun _ _ _ q => lv_dup X.x X.b hdg hva q) k
theorem z_dup2 (X : CX p s m args meth c D ty A cc nL ret own) {va vb : Value} (hdg : decode cc pc = .ok (.dup2, 1)) (hva : va.category = 1) (hvb : vb.category = 1) (k : Z p l e R s m args below meth c D A nL ce sl Q w lv (pc + 1) (va :: vb :: va :: vb :: st)) : Z p l e R s m args below meth c D A nL ce sl Q w lv pc (va :: vb :: st) := Z.lift (fun _ _ _ q => lv_dup2_11 X.x X.b hdg hva hvb q) k
theorem z_pop (X : CX p s m args meth c D ty A cc nL ret own) {va : Value} (hdg : decode cc pc = .ok (.pop, 1)) (hva : va.category = 1) (k : Z p l e R s m args below meth c D A nL ce sl Q w lv (pc + 1) (st)) : Z p l e R s m args below meth c D A nL ce sl Q w lv pc (va :: st) := Z.lift (fun _ _ _ q => lv_pop X.x X.b hdg hva q) k
theorem z_goto (X : CX p s m args meth c D ty A cc nL ret own) {off : Int} {tgt : Nat} (hdg : decode cc pc = .ok (.goto off, 3)) (ht : (pc : Int) + off = (tgt : Int)) (k : Z p l e R s m args below meth c D A nL ce sl Q w lv tgt st) : Z p l e R s m args below meth c D A nL ce sl Q w lv pc st := Z.lift (fun _ _ _ q => lv_goto X.x X.b hdg ht q) k
theorem z_if_eq (X : CX p s m args meth c D ty A cc nL ret own) {x : Int32} {off : Int} {tgt : Nat} (hdg : decode cc pc = .ok (.ifCond .eq off, 3)) (ht : (pc : Int) + off = (tgt : Int)) (kt : x = 0 → Z p l e R s m args below meth c D A nL ce sl Q w lv tgt st) (kf : ¬ (x = 0) → Z p l e R s m args below meth c D A nL ce sl Q w lv (pc + 3) st) : Z p l e R s m args below meth c D A nL ce sl Q w lv pc (.int x :: st) := fun H locs ls hP hD hS hl => lv_if_eq X.x X.b hdg ht (fun q => kt q H locs ls hP hD hS hl) (fun q => kf q H locs ls hP hD hS hl)
theorem z_icmp_eq (X : CX p s m args meth c D ty A cc nL ret own) {x y : Int32} {off : Int} {tgt : Nat} (hdg : decode cc pc = .ok (.if_icmp .eq off, 3)) (ht : (pc : Int) + off = (tgt : Int)) (kt : x = y → Z p l e R s m args below meth c D A nL ce sl Q w lv tgt st) (kf : ¬ (x = y) → Z p l e R s m args below meth c D A nL ce sl Q w lv (pc + 3) st) : Z p l e R s m args below meth c D A nL ce sl Q w lv pc (.int y :: .int x :: st) := fun H locs ls hP hD hS hl => lv_icmp_eq X.x X.b hdg ht (fun q => kt q H locs ls hP hD hS hl) (fun q => kf q H locs ls hP hD hS hl)
theorem z_if_ne (X : CX p s m args meth c D ty A cc nL ret own) {x : Int32} {off : Int} {tgt : Nat} (hdg : decode cc pc = .ok (.ifCond .ne off, 3)) (ht : (pc : Int) + off = (tgt : Int)) (kt : ¬ x = 0 → Z p l e R s m args below meth c D A nL ce sl Q w lv tgt st) (kf : x = 0 → Z p l e R s m args below meth c D A nL ce sl Q w lv (pc + 3) st) : Z p l e R s m args below meth c D A nL ce sl Q w lv pc (.int x :: st) := fun H locs ls hP hD hS hl => lv_if_ne X.x X.b hdg ht (fun q => kt q H locs ls hP hD hS hl) (fun q => kf q H locs ls hP hD hS hl)
theorem z_icmp_ne (X : CX p s m args meth c D ty A cc nL ret own) {x y : Int32} {off : Int} {tgt : Nat} (hdg : decode cc pc = .ok (.if_icmp .ne off, 3)) (ht : (pc : Int) + off = (tgt : Int)) (kt : ¬ x = y → Z p l e R s m args below meth c D A nL ce sl Q w lv tgt st) (kf : x = y → Z p l e R s m args below meth c D A nL ce sl Q w lv (pc + 3) st) : Z p l e R s m args below meth c D A nL ce sl Q w lv pc (.int y :: .int x :: st) := fun H locs ls hP hD hS hl => lv_icmp_ne X.x X.b hdg ht (fun q => kt q H locs ls hP hD hS hl) (fun q => kf q H locs ls hP hD hS hl)
theorem z_if_lt (X : CX p s m args meth c D ty A cc nL ret own) {x : Int32} {off : Int} {tgt : Nat} (hdg : decode cc pc = .ok (.ifCond .lt off, 3)) (ht : (pc : Int) + off = (tgt : Int)) (kt : x < 0 → Z p l e R s m args below meth c D A nL ce sl Q w lv tgt st) (kf : ¬ (x < 0) → Z p l e R s m args below meth c D A nL ce sl Q w lv (pc + 3) st) : Z p l e R s m args below meth c D A nL ce sl Q w lv pc (.int x :: st) := fun H locs ls hP hD hS hl => lv_if_lt X.x X.b hdg ht (fun q => kt q H locs ls hP hD hS hl) (fun q => kf q H locs ls hP hD hS hl)
theorem z_icmp_lt (X : CX p s m args meth c D ty A cc nL ret own) {x y : Int32} {off : Int} {tgt : Nat} (hdg : decode cc pc = .ok (.if_icmp .lt off, 3)) (ht : (pc : Int) + off = (tgt : Int)) (kt : x < y → Z p l e R s m args below meth c D A nL ce sl Q w lv tgt st) (kf : ¬ (x < y) → Z p l e R s m args below meth c D A nL ce sl Q w lv (pc + 3) st) : Z p l e R s m args below meth c D A nL ce sl Q w lv pc (.int y :: .int x :: st) := fun H locs ls hP hD hS hl => lv_icmp_lt X.x X.b hdg ht (fun q => kt q H locs ls hP hD hS hl) (fun q => kf q H locs ls hP hD hS hl)
theorem z_if_ge (X : CX p s m args meth c D ty A cc nL ret own) {x : Int32} {off : Int} {tgt : Nat} (hdg : decode cc pc = .ok (.ifCond .ge off, 3)) (ht : (pc : Int) + off = (tgt : Int)) (kt : 0 ≤ x → Z p l e R s m args below meth c D A nL ce sl Q w lv tgt st) (kf : ¬ (0 ≤ x) → Z p l e R s m args below meth c D A nL ce sl Q w lv (pc + 3) st) : Z p l e R s m args below meth c D A nL ce sl Q w lv pc (.int x :: st) := fun H locs ls hP hD hS hl => lv_if_ge X.x X.b hdg ht (fun q => kt q H locs ls hP hD hS hl) (fun q => kf q H locs ls hP hD hS hl)
theorem z_icmp_ge (X : CX p s m args meth c D ty A cc nL ret own) {x y : Int32} {off : Int} {tgt : Nat} (hdg : decode cc pc = .ok (.if_icmp .ge off, 3)) (ht : (pc : Int) + off = (tgt : Int)) (kt : y ≤ x → Z p l e R s m args below meth c D A nL ce sl Q w lv tgt st) (kf : ¬ (y ≤ x) → Z p l e R s m args below meth c D A nL ce sl Q w lv (pc + 3) st) : Z p l e R s m args below meth c D A nL ce sl Q w lv pc (.int y :: .int x :: st) := fun H locs ls hP hD hS hl => lv_icmp_ge X.x X.b hdg ht (fun q => kt q H locs ls hP hD hS hl) (fun q => kf q H locs ls hP hD hS hl)
theorem z_if_gt (X : CX p s m args meth c D ty A cc nL ret own) {x : Int32} {off : Int} {tgt : Nat} (hdg : decode cc pc = .ok (.ifCond .gt off, 3)) (ht : (pc : Int) + off = (tgt : Int)) (kt : 0 < x → Z p l e R s m args below meth c D A nL ce sl Q w lv tgt st) (kf : ¬ (0 < x) → Z p l e R s m args below meth c D A nL ce sl Q w lv (pc + 3) st) : Z p l e R s m args below meth c D A nL ce sl Q w lv pc (.int x :: st) := fun H locs ls hP hD hS hl => lv_if_gt X.x X.b hdg ht (fun q => kt q H locs ls hP hD hS hl) (fun q => kf q H locs ls hP hD hS hl)
theorem z_icmp_gt (X : CX p s m args meth c D ty A cc nL ret own) {x y : Int32} {off : Int} {tgt : Nat} (hdg : decode cc pc = .ok (.if_icmp .gt off, 3)) (ht : (pc : Int) + off = (tgt : Int)) (kt : y < x → Z p l e R s m args below meth c D A nL ce sl Q w lv tgt st) (kf : ¬ (y < x) → Z p l e R s m args below meth c D A nL ce sl Q w lv (pc + 3) st) : Z p l e R s m args below meth c D A nL ce sl Q w lv pc (.int y :: .int x :: st) := fun H locs ls hP hD hS hl => lv_icmp_gt X.x X.b hdg ht (fun q => kt q H locs ls hP hD hS hl) (fun q => kf q H locs ls hP hD hS hl)
theorem z_if_le (X : CX p s m args meth c D ty A cc nL ret own) {x : Int32} {off : Int} {tgt : Nat} (hdg : decode cc pc = .ok (.ifCond .le off, 3)) (ht : (pc : Int) + off = (tgt : Int)) (kt : x ≤ 0 → Z p l e R s m args below meth c D A nL ce sl Q w lv tgt st) (kf : ¬ (x ≤ 0) → Z p l e R s m args below meth c D A nL ce sl Q w lv (pc + 3) st) : Z p l e R s m args below meth c D A nL ce sl Q w lv pc (.int x :: st) := fun H locs ls hP hD hS hl => lv_if_le X.x X.b hdg ht (fun q => kt q H locs ls hP hD hS hl) (fun q => kf q H locs ls hP hD hS hl)
theorem z_icmp_le (X : CX p s m args meth c D ty A cc nL ret own) {x y : Int32} {off : Int} {tgt : Nat} (hdg : decode cc pc = .ok (.if_icmp .le off, 3)) (ht : (pc : Int) + off = (tgt : Int)) (kt : x ≤ y → Z p l e R s m args below meth c D A nL ce sl Q w lv tgt st) (kf : ¬ (x ≤ y) → Z p l e R s m args below meth c D A nL ce sl Q w lv (pc + 3) st) : Z p l e R s m args below meth c D A nL ce sl Q w lv pc (.int y :: .int x :: st) := fun H locs ls hP hD hS hl => lv_icmp_le X.x X.b hdg ht (fun q => kt q H locs ls hP hD hS hl) (fun q => kf q H locs ls hP hD hS hl)
theorem z_tableIn (X : CX p s m args meth c D ty A cc nL ret own) {dflt lo hi : Int} {offs : Array Int} {len : Nat} {x : Int32} {off : Int} {tgt : Nat} (hdg : decode cc pc = .ok (.tableswitch dflt lo hi offs, len)) (h1 : ¬ x.toInt < lo) (h2 : ¬ hi < x.toInt) (ho : offs[(x.toInt - lo).toNat]? = some off) (ht : (pc : Int) + off = (tgt : Int)) (k : Z p l e R s m args below meth c D A nL ce sl Q w lv tgt st) : Z p l e R s m args below meth c D A nL ce sl Q w lv pc (.int x :: st) := Z.lift (fun _ _ _ q => lv_tableIn X.x X.b hdg h1 h2 ho ht q) k
theorem z_tableOut (X : CX p s m args meth c D ty A cc nL ret own) {dflt lo hi : Int} {offs : Array Int} {len : Nat} {x : Int32} {tgt : Nat} (hdg : decode cc pc = .ok (.tableswitch dflt lo hi offs, len)) (h : x.toInt < lo ∨ hi < x.toInt) (ht : (pc : Int) + dflt = (tgt : Int)) (k : Z p l e R s m args below meth c D A nL ce sl Q w lv tgt st) : Z p l e R s m args below meth c D A nL ce sl Q w lv pc (.int x :: st) := Z.lift (fun _ _ _ q => lv_tableOut X.x X.b hdg h ht q) k
theorem z_iload_n (X : CX p s m args meth c D ty A cc nL ret own) {k : Fin 4} {x : Int32} (hdg : decode cc pc = .ok (.iload_n k, 1)) (j : Nat) (hj : lv[j]? = some ((k : Nat), .int x)) (kk : Z p l e R s m args below meth c D A nL ce sl Q w lv (pc + 1) (.int x :: st)) : Z p l e R s m args below meth c D A nL ce sl Q w lv pc st := fun H locs ls hP hD hS hl => lv_iload_n X.x X.b hdg rfl (lv_at hl j hj) (kk H locs ls hP hD hS hl)
theorem z_iload (X : CX p s m args meth c D ty A cc nL ret own) {i : Nat} {x : Int32} (hdg : decode cc pc = .ok (.iload i, 2)) (j : Nat) (hj : lv[j]? = some (i, .int x)) (kk : Z p l e R s m args below meth c D A nL ce sl Q w lv (pc + 2) (.int x :: st)) : Z p l e R s m args below meth c D A nL ce sl Q w lv pc st := fun H locs ls hP hD hS hl => lv_iload X.x X.b hdg (lv_at hl j hj) (kk H locs ls hP hD hS hl)
theorem z_lload_n (X : CX p s m args meth c D ty A cc nL ret own) {k : Fin 4} {x : Int64} (hdg : decode cc pc = .ok (.lload_n k, 1)) (j : Nat) (hj : lv[j]? = some ((k : Nat), .long x)) (kk : Z p l e R s m args below meth c D A nL ce sl Q w lv (pc + 1) (.long x :: st)) : Z p l e R s m args below meth c D A nL ce sl Q w lv pc st := fun H locs ls hP hD hS hl => lv_lload_n X.x X.b hdg rfl (lv_at hl j hj) (kk H locs ls hP hD hS hl)
theorem z_lload (X : CX p s m args meth c D ty A cc nL ret own) {i : Nat} {x : Int64} (hdg : decode cc pc = .ok (.lload i, 2)) (j : Nat) (hj : lv[j]? = some (i, .long x)) (kk : Z p l e R s m args below meth c D A nL ce sl Q w lv (pc + 2) (.long x :: st)) : Z p l e R s m args below meth c D A nL ce sl Q w lv pc st := fun H locs ls hP hD hS hl => lv_lload X.x X.b hdg (lv_at hl j hj) (kk H locs ls hP hD hS hl)
theorem z_aload_n (X : CX p s m args meth c D ty A cc nL ret own) {k : Fin 4} {x : Nat} (hdg : decode cc pc = .ok (.aload_n k, 1)) (j : Nat) (hj : lv[j]? = some ((k : Nat), .ref x)) (kk : Z p l e R s m args below meth c D A nL ce sl Q w lv (pc + 1) (.ref x :: st)) : Z p l e R s m args below meth c D A nL ce sl Q w lv pc st := fun H locs ls hP hD hS hl => lv_aload_n X.x X.b hdg rfl (lv_at hl j hj) (kk H locs ls hP hD hS hl)
theorem z_aload (X : CX p s m args meth c D ty A cc nL ret own) {i : Nat} {x : Nat} (hdg : decode cc pc = .ok (.aload i, 2)) (j : Nat) (hj : lv[j]? = some (i, .ref x)) (kk : Z p l e R s m args below meth c D A nL ce sl Q w lv (pc + 2) (.ref x :: st)) : Z p l e R s m args below meth c D A nL ce sl Q w lv pc st := fun H locs ls hP hD hS hl => lv_aload X.x X.b hdg (lv_at hl j hj) (kk H locs ls hP hD hS hl)
theorem z_istore_n (X : CX p s m args meth c D ty A cc nL ret own) {k : Fin 4} {x : Int32} {lv' : List (Nat × Value)} (hdg : decode cc pc = .ok (.istore_n k, 1)) (hn : (k : Nat) < nL) (hl' : ((k : Nat), Value.int x) :: lv.filter (fun q => !(q.1 == (k : Nat)) && !(q.1 + 1 == (k : Nat) && q.2.category == 2)) = lv') (kk : Z p l e R s m args below meth c D A nL ce sl Q w lv' (pc + 1) st) : Z p l e R s m args below meth c D A nL ce sl Q w lv pc (.int x :: st) := fun H locs ls hP hD hS hl => lv_istore_n X.x X.b hdg rfl hl hn hl' (fun ls' h' => kk H locs ls' hP hD hS h')
theorem z_istore (X : CX p s m args meth c D ty A cc nL ret own) {i : Nat} {x : Int32} {lv' : List (Nat × Value)} (hdg : decode cc pc = .ok (.istore i, 2)) (hn : i < nL) (hl' : (i, Value.int x) :: lv.filter (fun q => !(q.1 == i) && !(q.1 + 1 == i && q.2.category == 2)) = lv') (kk : Z p l e R s m args below meth c D A nL ce sl Q w lv' (pc + 2) st) : Z p l e R s m args below meth c D A nL ce sl Q w lv pc (.int x :: st) := fun H locs ls hP hD hS hl => lv_istore X.x X.b hdg hl hn hl' (fun ls' h' => kk H locs ls' hP hD hS h')
theorem z_lstore_n (X : CX p s m args meth c D ty A cc nL ret own) {k : Fin 4} {x : Int64} {lv' : List (Nat × Value)} (hdg : decode cc pc = .ok (.lstore_n k, 1)) (hn : (k : Nat) + 1 < nL) (hl' : ((k : Nat), Value.long x) :: lv.filter (fun q => !(q.1 == (k : Nat)) && (!(q.1 == (k : Nat) + 1) && !(q.1 + 1 == (k : Nat) && q.2.category == 2))) = lv') (kk : Z p l e R s m args below meth c D A nL ce sl Q w lv' (pc + 1) st) : Z p l e R s m args below meth c D A nL ce sl Q w lv pc (.long x :: st) := fun H locs ls hP hD hS hl => lv_lstore_n X.x X.b hdg rfl hl hn hl' (fun ls' h' => kk H locs ls' hP hD hS h')
theorem z_lstore (X : CX p s m args meth c D ty A cc nL ret own) {i : Nat} {x : Int64} {lv' : List (Nat × Value)} (hdg : decode cc pc = .ok (.lstore i, 2)) (hn : i + 1 < nL) (hl' : (i, Value.long x) :: lv.filter (fun q => !(q.1 == i) && (!(q.1 == i + 1) && !(q.1 + 1 == i && q.2.category == 2))) = lv') (kk : Z p l e R s m args below meth c D A nL ce sl Q w lv' (pc + 2) st) : Z p l e R s m args below meth c D A nL ce sl Q w lv pc (.long x :: st) := fun H locs ls hP hD hS hl => lv_lstore X.x X.b hdg hl hn hl' (fun ls' h' => kk H locs ls' hP hD hS h')
theorem z_astore_n (X : CX p s m args meth c D ty A cc nL ret own) {k : Fin 4} {x : Nat} {lv' : List (Nat × Value)} (hdg : decode cc pc = .ok (.astore_n k, 1)) (hn : (k : Nat) < nL) (hl' : ((k : Nat), Value.ref x) :: lv.filter (fun q => !(q.1 == (k : Nat)) && !(q.1 + 1 == (k : Nat) && q.2.category == 2)) = lv') (kk : Z p l e R s m args below meth c D A nL ce sl Q w lv' (pc + 1) st) : Z p l e R s m args below meth c D A nL ce sl Q w lv pc (.ref x :: st) := fun H locs ls hP hD hS hl => lv_astore_n X.x X.b hdg rfl hl hn hl' (fun ls' h' => kk H locs ls' hP hD hS h')
theorem z_astore (X : CX p s m args meth c D ty A cc nL ret own) {i : Nat} {x : Nat} {lv' : List (Nat × Value)} (hdg : decode cc pc = .ok (.astore i, 2)) (hn : i < nL) (hl' : (i, Value.ref x) :: lv.filter (fun q => !(q.1 == i) && !(q.1 + 1 == i && q.2.category == 2)) = lv') (kk : Z p l e R s m args below meth c D A nL ce sl Q w lv' (pc + 2) st) : Z p l e R s m args below meth c D A nL ce sl Q w lv pc (.ref x :: st) := fun H locs ls hP hD hS hl => lv_astore X.x X.b hdg hl hn hl' (fun ls' h' => kk H locs ls' hP hD hS h')
theorem z_iinc (X : CX p s m args meth c D ty A cc nL ret own) {i : Nat} {n : Int} {x v : Int32} {lv' : List (Nat × Value)} (hdg : decode cc pc = .ok (.iinc i n, 3)) (j : Nat) (hj : lv[j]? = some (i, .int x)) (hv : x + Int32.ofInt n = v) (hn : i < nL) (hl' : (i, Value.int v) :: lv.filter (fun q => !(q.1 == i) && !(q.1 + 1 == i && q.2.category == 2)) = lv') (kk : Z p l e R s m args below meth c D A nL ce sl Q w lv' (pc + 3) st) : Z p l e R s m args below meth c D A nL ce sl Q w lv pc st := fun H locs ls hP hD hS hl => lv_iinc X.x X.b hdg hl hj hv hn hl' (fun ls' h' => kk H locs ls' hP hD hS h')
theorem z_topi {x : Int32} (k : ∀ y : Int32, y = x → Z p l e R s m args below meth c D A nL ce sl Q w lv pc (.int y :: st)) : Z p l e R s m args below meth c D A nL ce sl Q w lv pc (.int x :: st) := k x rfl
theorem z_lv {lv' : List (Nat × Value)} (ks : List Nat) (h : lv_pick lv ks = lv') (k : Z p l e R s m args below meth c D A nL ce sl Q w lv' pc st) : Z p l e R s m args below meth c D A nL ce sl Q w lv pc st := fun H locs ls hP hD hS hl => k H locs ls hP hD hS (lv_sub hl ks h)
theorem z_w {w' : va_W} (h : w = w') (k : Z p l e R s m args below meth c D A nL ce sl Q w' lv pc st) : Z p l e R s m args below meth c D A nL ce sl Q w lv pc st := by subst h; exact k
theorem z_perm {w' : va_W} (is : List Nat) (hn : va_nd is = true) (hs : is.filterMap (fun i => w[i]?) = w') (hs2 : is.map (fun i => w[i]?) = w'.map some) (k : Z p l e R s m args below meth c D A nL ce sl Q w' lv pc st) : Z p l e R s m args below meth c D A nL ce sl Q w lv pc st := fun H locs ls hP hD hS hl => k H locs ls (hP.sub is hs) (hD.sub is hn hs2) hS hl
theorem z_get (X : CX p s m args meth c D ty A cc nL ret own) {C ref : String} {T : u_T} {N ci index a : Nat} (hin : ∀ w ∈ u_ws C T N, w ∈ WS) (hc : vwCl[ci]? = some (C, T, N)) (q0 : Nat) {fs : List Value} (he : w[q0]? = some (a, .inr (ci, fs))) (k : Nat) (hk : k < N) (hlink : Cond.fieldLink own index ref (T k).2.1 (T k).2.2.1 ∈ WS) (hr : (T k).1 = ref) {v : Value} (hv : fs[k]? = some v) (hdg : decode cc pc = .ok (.getfield index, 3)) (kk : Z p l e R s m args below meth c D A nL ce sl Q w lv (pc + 3) (v :: st)) : Z p l e R s m args below meth c D A nL ce sl Q w lv pc (.ref a :: st) := fun H locs ls hP hD hS hl => va_get X.x X.b X.ts hin X.ow X.K hP q0 he hc k hk (X.ts _ hlink) (fun x h => by rw [hr] at h; exact h) hv hdg (kk H locs ls hP hD hS hl)
theorem z_put (X : CX p s m args meth c D ty A cc nL ret own) {C ref : String} {T : u_T} {N ci index a : Nat} (hin : ∀ w ∈ u_ws C T N, w ∈ WS) (hc : vwCl[ci]? = some (C, T, N)) (ty0 : Nat → FieldType) (hty : ∀ k, k < N → parseFieldDescriptor (T k).2.2.1 = some (ty0 k)) (hnm : ∀ a, a < N → ∀ b, b < N → a ≠ b → (T a).2.1 ≠ (T b).2.1) (q0 : Nat) {fs : List Value} (he : w[q0]? = some (a, .inr (ci, fs))) (k : Nat) (hk : k < N) (hlink : Cond.fieldLink own index ref (T k).2.1 (T k).2.2.1 ∈ WS) (hr : (T k).1 = ref) (hfin : (T k).2.2.2 = false) {v : Value} (hn : narrow (ty0 k) v = v) (hfit : fits (ty0 k) v = true) (hl2 : k < fs.length) {w' : va_W} (hw : w.set q0 (a, .inr (ci, fs.set k v)) = w') (hdg : decode cc pc = .ok (.putfield index, 3)) (kk : Z p l e R s m args below meth c D A nL ce sl Q w' lv (pc + 3) st) : Z p l e R s m args below meth c D A nL ce sl Q w lv pc (v :: .ref a :: st) := by
  subst hw
  exact fun H locs ls hP hD hS hl => va_put X.x X.b X.ts hin ty0 hty hnm X.ow X.K hP hD hS q0 he hc k hk (X.ts _ hlink) (fun x h => by rw [hr] at h; exact h) hfin (hty k hk) hn hfit hl2 hdg (fun H1 locs1 h1 h2 h3 => kk H1 locs1 ls h1 h2 h3 hl)
theorem z_putF (X : CX p s m args meth c D ty A cc nL ret own) {C ref : String} {T : u_T} {N ci index a : Nat} (hin : ∀ w ∈ u_ws C T N, w ∈ WS) (hc : vwCl[ci]? = some (C, T, N)) (ty0 : Nat → FieldType) (hty : ∀ k, k < N → parseFieldDescriptor (T k).2.2.1 = some (ty0 k)) (hnm : ∀ a, a < N → ∀ b, b < N → a ≠ b → (T a).2.1 ≠ (T b).2.1) (q0 : Nat) {fs : List Value} (he : w[q0]? = some (a, .inr (ci, fs))) (k : Nat) (hk : k < N) (hlink : Cond.fieldLink own index ref (T k).2.1 (T k).2.2.1 ∈ WS) (hr : (T k).1 = ref) (hfin : (T k).2.2.2 = true) (hini : meth.name = "<init>") (hdecl : (T k).1 = own) {v : Value} (hn : narrow (ty0 k) v = v) (hfit : fits (ty0 k) v = true) (hl2 : k < fs.length) {w' : va_W} (hw : w.set q0 (a, .inr (ci, fs.set k v)) = w') (hdg : decode cc pc = .ok (.putfield index, 3)) (kk : Z p l e R s m args below meth c D A nL ce sl Q w' lv (pc + 3) st) : Z p l e R s m args below meth c D A nL ce sl Q w lv pc (v :: .ref a :: st) := by
  subst hw
  exact fun H locs ls hP hD hS hl => va_putF X.x X.b X.ts hin ty0 hty hnm X.ow X.K hP hD hS q0 he hc k hk (X.ts _ hlink) (fun x h => by rw [hr] at h; exact h) hfin hini hdecl (hty k hk) hn hfit hl2 hdg (fun H1 locs1 h1 h2 h3 => kk H1 locs1 ls h1 h2 h3 hl)
theorem z_iald (X : CX p s m args meth c D ty A cc nL ret own) (q0 t0 : Nat) {cA : ClassId} {n a : Nat} {f : Nat → Int32} (ha : w[q0]? = some (a, .inl (cA, n, .inl f))) (ht : ty[t0]? = some (cA, .int)) {i : Int32} {j : Nat} (hin : vp_in i n) (hj : i.toNatClampNeg = j) (hdg : decode cc pc = .ok (.iaload, 1)) (kk : Z p l e R s m args below meth c D A nL ce sl Q w lv (pc + 1) (.int (f j) :: st)) : Z p l e R s m args below meth c D A nL ce sl Q w lv pc (.int i :: .ref a :: st) := by
  subst hj
  exact fun H locs ls hP hD hS hl => va_iald X.x X.b X.K hP q0 t0 ha ht hin hdg (kk H locs ls hP hD hS hl)
theorem z_cald (X : CX p s m args meth c D ty A cc nL ret own) (q0 t0 : Nat) {cA : ClassId} {n a : Nat} {f : Nat → Int32} (ha : w[q0]? = some (a, .inl (cA, n, .inl f))) (ht : ty[t0]? = some (cA, .char)) {i : Int32} {j : Nat} (hin : vp_in i n) (hj : i.toNatClampNeg = j) (hdg : decode cc pc = .ok (.caload, 1)) (kk : Z p l e R s m args below meth c D A nL ce sl Q w lv (pc + 1) (.int (f j) :: st)) : Z p l e R s m args below meth c D A nL ce sl Q w lv pc (.int i :: .ref a :: st) := by
  subst hj
  exact fun H locs ls hP hD hS hl => va_cald X.x X.b X.K hP q0 t0 ha ht hin hdg (kk H locs ls hP hD hS hl)
theorem z_iast (X : CX p s m args meth c D ty A cc nL ret own) (q0 t0 : Nat) {cA : ClassId} {n a : Nat} {f : Nat → Int32} (ha : w[q0]? = some (a, .inl (cA, n, .inl f))) (ht : ty[t0]? = some (cA, .int)) {i x : Int32} {j : Nat} (hin : vp_in i n) (hj : i.toNatClampNeg = j) {w' : va_W} (hw : w.set q0 (a, .inl (cA, n, .inl (upd f j x))) = w') (hdg : decode cc pc = .ok (.iastore, 1)) (kk : Z p l e R s m args below meth c D A nL ce sl Q w' lv (pc + 1) st) : Z p l e R s m args below meth c D A nL ce sl Q w lv pc (.int x :: .int i :: .ref a :: st) := by
  subst hj
  subst hw
  exact fun H locs ls hP hD hS hl => va_iast X.x X.b X.K hP hD hS q0 t0 ha ht hin hdg (fun H1 locs1 h1 h2 h3 => kk H1 locs1 ls h1 h2 h3 hl)
theorem z_cast (X : CX p s m args meth c D ty A cc nL ret own) (q0 t0 : Nat) {cA : ClassId} {n a : Nat} {f : Nat → Int32} (ha : w[q0]? = some (a, .inl (cA, n, .inl f))) (ht : ty[t0]? = some (cA, .char)) {i x : Int32} {j : Nat} (hin : vp_in i n) (hj : i.toNatClampNeg = j) (hx : narrow .char (.int x) = .int x) {w' : va_W} (hw : w.set q0 (a, .inl (cA, n, .inl (upd f j x))) = w') (hdg : decode cc pc = .ok (.castore, 1)) (kk : Z p l e R s m args below meth c D A nL ce sl Q w' lv (pc + 1) st) : Z p l e R s m args below meth c D A nL ce sl Q w lv pc (.int x :: .int i :: .ref a :: st) := by
  subst hj
  subst hw
  refine fun H locs ls hP hD hS hl => va_cast X.x X.b X.K hP hD hS q0 t0 ha ht hin hdg (fun H1 locs1 h1 h2 h3 => kk H1 locs1 ls ?_ ?_ h3 hl)
  all_goals (have e9 : vp_nar .char x = x := by unfold vp_nar; rw [hx])
  · rw [e9] at h1; exact h1
  · rw [e9] at h2; exact h2
theorem z_aald (X : CX p s m args meth c D ty A cc nL ret own) (q0 t0 : Nat) {cA : ClassId} {C : String} {n a : Nat} {f : Nat → Option Nat} (ha : w[q0]? = some (a, .inl (cA, n, .inr (.inr (.inr (.inr f)))))) (ht : ty[t0]? = some (cA, .object C)) {i : Int32} {j v : Nat} (hin : vp_in i n) (hj : i.toNatClampNeg = j) (hv : f j = some v) (hdg : decode cc pc = .ok (.aaload, 1)) (kk : Z p l e R s m args below meth c D A nL ce sl Q w lv (pc + 1) (.ref v :: st)) : Z p l e R s m args below meth c D A nL ce sl Q w lv pc (.int i :: .ref a :: st) := by
  subst hj
  exact fun H locs ls hP hD hS hl => va_aldq X.x X.b X.K hP q0 t0 ha ht hin hdg (by rw [hv]; exact kk H locs ls hP hD hS hl)
theorem z_aast (X : CX p s m args meth c D ty A cc nL ret own) (q0 t0 qk ci : Nat) {cA : ClassId} {r : vw_C} {n a v : Nat} {vs : List Value} {f : Nat → Option Nat} (ha : w[q0]? = some (a, .inl (cA, n, .inr (.inr (.inr (.inr f)))))) (ht : ty[t0]? = some (cA, .object r.1)) (hv : w[qk]? = some (v, .inr (ci, vs))) (hc : vwCl[ci]? = some r) {i : Int32} {j : Nat} (hin : vp_in i n) (hj : i.toNatClampNeg = j) {w' : va_W} (hw : w.set q0 (a, .inl (cA, n, .inr (.inr (.inr (.inr (va_up f j (some v))))))) = w') (hdg : decode cc pc = .ok (.aastore, 1)) (kk : Z p l e R s m args below meth c D A nL ce sl Q w' lv (pc + 1) st) : Z p l e R s m args below meth c D A nL ce sl Q w lv pc (.ref v :: .int i :: .ref a :: st) := by
  subst hj
  subst hw
  exact fun H locs ls hP hD hS hl => va_astq X.x X.b X.K hP hD hS q0 t0 qk ci ha ht hv hc hin hdg (fun H1 locs1 h1 h2 h3 => kk H1 locs1 ls h1 h2 h3 hl)
end
/-! contracts -/
def PcW (D : va_G) (ty : List (ClassId × FieldType)) (sz : Nat) (wc : va_W) (av : List Value) : Array Value → State → Prop := va_Pc av (fun U => U.heap.size = sz ∧ va_P D vwCl wc U.heap ∧ va_K D vwCl ty U ∧ va_D (fun _ => True) wc ∧ ST (va_A wc sz) U U.heap)
def QiA {U : Type} (D : va_G) (ty : List (ClassId × FieldType)) (A : Nat → Prop) (rf : U → Int32) (wf : U → va_W) (Pu : U → Prop) : Array Value → State → Outcome → State → Prop := va_Qi (fun r (u : U) => r = rf u ∧ Pu u) (fun u t => va_P D vwCl (wf u) t.heap ∧ va_K D vwCl ty t ∧ va_D A (wf u)) A
def QvA {U : Type} (D : va_G) (ty : List (ClassId × FieldType)) (A : Nat → Prop) (wf : U → va_W) (Pu : U → Prop) : Array Value → State → Outcome → State → Prop := va_Qv (fun (u : U) => Pu u) (fun u t => va_P D vwCl (wf u) t.heap ∧ va_K D vwCl ty t ∧ va_D A (wf u)) A
def CtI {U : Type} (l : Launch) (y : MethodName) (bytes : ByteArray) (maxL : Nat) (ret : Option FieldType) (rm : Room) (D : va_G) (ty : List (ClassId × FieldType)) (wc : va_W) (av : List Value) (rf : U → Int32) (wf : U → va_W) (Pu : U → Prop) : Prop := ∀ sz : Nat, Met l y (Cond.code y bytes maxL ret :: WS) rm (PcW D ty sz wc av) (QiA D ty (va_A wc sz) rf wf Pu) 0 0 (va_A wc sz)
def CtV {U : Type} (l : Launch) (y : MethodName) (bytes : ByteArray) (maxL : Nat) (ret : Option FieldType) (rm : Room) (D : va_G) (ty : List (ClassId × FieldType)) (wc : va_W) (av : List Value) (wf : U → va_W) (Pu : U → Prop) : Prop := ∀ sz : Nat, Met l y (Cond.code y bytes maxL ret :: WS) rm (PcW D ty sz wc av) (QvA D ty (va_A wc sz) wf Pu) 0 0 (va_A wc sz)
theorem PcW_blind {D : va_G} {ty : List (ClassId × FieldType)} {sz : Nat} {wc : va_W} {av : List Value} : FrameBlind (PcW D ty sz wc av) := fun a U g mk q => by
  obtain ⟨q0, q1, qP, qK, qD, qS⟩ := q
  exact ⟨q0, q1, qP, va_K.moved (u := U) (U := U.calling g mk a) (Vm.Alike.refl U.vm) qK, qD, ST.moved (u := U) (U := U.calling g mk a) (Vm.Alike.refl U.vm) qS⟩
theorem met_Z {l : Launch} {y : MethodName} {own : String} {rm : Room} {D : va_G} {ty : List (ClassId × FieldType)} {wc : va_W} {av : List Value} {cc : ByteArray} {maxL sz : Nat} {ret : Option FieldType} {Qc : Array Value → State → Outcome → State → Prop} (hy : plainName y.cls = true) (ho : y.cls = own) (hlen : (lg_sl av).length ≤ maxL)
    (body : ∀ (p : Program) (e : Env) (s : State) (m : MethodId) (args : Array Value) (below : List Frame) (meth : Method) (c : Code), CX p s m args meth c D ty (va_A wc sz) cc maxL ret own → meth.name = y.name → Z p l e rm s m args below meth c D (va_A wc sz) maxL 0 0 (MQ below Qc args s 0 0 (va_A wc sz)) wc (lv_args 0 av) 0 []) : Met l y (Cond.code y cc maxL ret :: WS) rm (PcW D ty sz wc av) Qc 0 0 (va_A wc sz) := by
  refine Met.ofW (cc := cc) (maxL := maxL) (ret := ret) hy rfl ?_
  intro p e s m args below meth c s₁ B hml hv
  obtain ⟨rfl, hsz, hP, hK, hD0, hST⟩ := hv
  have hts : ∀ w ∈ WS, w.before av.toArray s = true := fun w h => atoms_spec (ws := Cond.code y cc maxL ret :: WS) B.pre w (List.mem_cons_of_mem _ h)
  have hown : s.vm.findClass own = some m.cls := by rw [← ho]; exact findClass_of_methodNamed B.named
  subst hsz
  have hl := lv_entry av (n := maxL) hlen
  rw [lg_entry_eq]
  exact body p e s m av.toArray below meth c ⟨B.exec, B.bytes, B.returns, hml, hown, hts, B.notSynchronized, hK, fun q h => Or.inr h, hST⟩ (name_of_methodNamed B.named B.method).1 s.heap [] _ hP hD0.self va_S.rf hl
theorem met_Zi {U : Type} {l : Launch} {y : MethodName} {own : String} {rm : Room} {D : va_G} {ty : List (ClassId × FieldType)} {wc : va_W} {av : List Value} {cc : ByteArray} {maxL : Nat} {ret : Option FieldType} {rf : U → Int32} {wf : U → va_W} {Pu : U → Prop} (hy : plainName y.cls = true) (ho : y.cls = own) (hlen : (lg_sl av).length ≤ maxL)
    (body : ∀ (p : Program) (e : Env) (s : State) (m : MethodId) (args : Array Value) (below : List Frame) (meth : Method) (c : Code) (A : Nat → Prop) (Q : State → Prop), CX p s m args meth c D ty A cc maxL ret own → Q = MQ below (QiA D ty A rf wf Pu) args s 0 0 A → Z p l e rm s m args below meth c D A maxL 0 0 Q wc (lv_args 0 av) 0 []) : CtI l y cc maxL ret rm D ty wc av rf wf Pu :=
  fun _ => met_Z hy ho hlen fun p e s m args below meth c X _ => body p e s m args below meth c _ _ X rfl
theorem met_Zv {U : Type} {l : Launch} {y : MethodName} {own : String} {rm : Room} {D : va_G} {ty : List (ClassId × FieldType)} {wc : va_W} {av : List Value} {cc : ByteArray} {maxL : Nat} {ret : Option FieldType} {wf : U → va_W} {Pu : U → Prop} (hy : plainName y.cls = true) (ho : y.cls = own) (hlen : (lg_sl av).length ≤ maxL)
    (body : ∀ (p : Program) (e : Env) (s : State) (m : MethodId) (args : Array Value) (below : List Frame) (meth : Method) (c : Code) (A : Nat → Prop) (Q : State → Prop), CX p s m args meth c D ty A cc maxL ret own → Q = MQ below (QvA D ty A wf Pu) args s 0 0 A → Z p l e rm s m args below meth c D A maxL 0 0 Q wc (lv_args 0 av) 0 []) : CtV l y cc maxL ret rm D ty wc av wf Pu :=
  fun _ => met_Z hy ho hlen fun p e s m args below meth c X _ => body p e s m args below meth c _ _ X rfl
theorem gV {own C : String} {idx maxL : Nat} {y : MethodName} {b : ByteArray} {ret : Option FieldType} (h1 : Cond.methodLink own idx y ∈ WS) (h2 : Cond.instanceMethod y ∈ WS) (h3 : Cond.selects C y y ∈ WS) (h4 : Cond.initialized C ∈ WS) (h5 : Cond.code y b maxL ret ∈ WS) : GoodIn WS (wsV own idx C y (Cond.code y b maxL ret :: WS)) := by
  intro w hw
  have h : w ∈ WS := by
    unfold wsV at hw
    simp only [List.cons_append, List.nil_append, List.mem_cons] at hw
    rcases hw with rfl | rfl | rfl | rfl | rfl | h <;> assumption
  exact ⟨h, good_of_word (WS_good w h)⟩
theorem gS {own : String} {idx maxL : Nat} {y : MethodName} {b : ByteArray} {ret : Option FieldType} (h1 : Cond.methodLink own idx y ∈ WS) (h2 : Cond.static y ∈ WS) (h4 : Cond.initialized y.cls ∈ WS) (h5 : Cond.code y b maxL ret ∈ WS) : GoodIn WS (va_wsS own idx y (Cond.code y b maxL ret :: WS)) := by
  intro w hw
  have h : w ∈ WS := by
    unfold va_wsS at hw
    simp only [List.cons_append, List.nil_append, List.mem_cons] at hw
    rcases hw with rfl | rfl | rfl | rfl | h <;> assumption
  exact ⟨h, good_of_word (WS_good w h)⟩
/-! worlds side by side -/
theorem vP_mem {D : va_G} {cl : List vw_C} {ws : va_W} {H : Heap} : va_P D cl ws H ↔ ∀ q ∈ ws, va_at D cl q H := by
  constructor
  · intro h q hq
    obtain ⟨i, hi⟩ := List.getElem?_of_mem hq
    exact h i q hi
  · intro h k q hk
    exact h q (List.mem_of_getElem? hk)
theorem vD_mem {A : Nat → Prop} {ws : va_W} : va_D A ws ↔ (ws.map Prod.fst).Nodup ∧ ∀ q ∈ ws, A q.1 := by
  constructor
  · intro h
    refine ⟨?_, fun q hq => ?_⟩
    · rw [List.nodup_iff_pairwise_ne, List.pairwise_iff_getElem]
      intro i j hi hj hij he
      simp only [List.length_map] at hi hj
      have h1 : ws[i]? = some ws[i] := List.getElem?_eq_getElem hi
      have h2 : ws[j]? = some ws[j] := List.getElem?_eq_getElem hj
      have := h.1 i j _ _ h1 h2 (by simpa using he)
      omega
    · obtain ⟨i, hi⟩ := List.getElem?_of_mem hq
      exact h.2 i q hi
  · rintro ⟨h1, h2⟩
    refine ⟨fun i j a b hi hj hab => ?_, fun k q hk => h2 q (List.mem_of_getElem? hk)⟩
    rw [List.nodup_iff_pairwise_ne, List.pairwise_iff_getElem] at h1
    obtain ⟨hi1, rfl⟩ := List.getElem?_eq_some_iff.mp hi
    obtain ⟨hj1, rfl⟩ := List.getElem?_eq_some_iff.mp hj
    rcases Nat.lt_trichotomy i j with h | h | h
    · exact (h1 i j (by simpa using hi1) (by simpa using hj1) h (by rw [List.getElem_map, List.getElem_map]; exact hab)).elim
    · exact h
    · exact (h1 j i (by simpa using hj1) (by simpa using hi1) h (by rw [List.getElem_map, List.getElem_map]; exact hab.symm)).elim
theorem vA_mem {wc : va_W} {sz q : Nat} : va_A wc sz q ↔ (∃ e, (q, e) ∈ wc) ∨ sz ≤ q := by
  constructor
  · rintro (⟨k, e, h⟩ | h)
    · exact Or.inl ⟨e, List.mem_of_getElem? h⟩
    · exact Or.inr h
  · rintro (⟨e, h⟩ | h)
    · obtain ⟨i, hi⟩ := List.getElem?_of_mem h
      exact Or.inl ⟨i, e, hi⟩
    · exact Or.inr h
theorem fr_part {A : Nat → Prop} {D : va_G} {cl : List vw_C} {wl wc wr : va_W} {H : Heap} (hP : va_P D cl (wl ++ (wc ++ wr)) H) (hD : va_D A (wl ++ (wc ++ wr))) : va_P D cl wc H ∧ va_D (fun _ => True) wc := by
  rw [vP_mem] at hP ⊢
  rw [vD_mem] at hD ⊢
  refine ⟨fun q hq => hP q (by simp [hq]), ?_, fun _ _ => trivial⟩
  have h := hD.1
  simp only [List.map_append] at h
  exact (List.nodup_append.mp (List.nodup_append.mp h).2.1).1
theorem fr_free {A : Nat → Prop} {wl wc wr : va_W} {H0 H : Heap} {locs : List Loc} (hD : va_D A (wl ++ (wc ++ wr))) (hS : va_S A H0 H locs) (hA : ∀ q, H0.size ≤ q → A q) : ∀ q, va_A wc H.size q → A q := by
  intro q h
  rcases vA_mem.mp h with ⟨e, h⟩ | h
  · exact (vD_mem.mp hD).2 (q, e) (by simp [h])
  · exact hA q (Nat.le_trans hS.1 h)
theorem fr_join {A : Nat → Prop} {D : va_G} {cl : List vw_C} {wl wc wr w1 : va_W} {H H1 : Heap} (hP : va_P D cl (wl ++ (wc ++ wr)) H) (hD : va_D A (wl ++ (wc ++ wr)))
    (hk : ∀ q : Nat, q < H.size → ¬ va_A wc H.size q → H1[q]? = H[q]?) (hF : ∀ q, va_A wc H.size q → A q) (hP1 : va_P D cl w1 H1) (hD1 : va_D (va_A wc H.size) w1) : va_P D cl (wl ++ (w1 ++ wr)) H1 ∧ va_D A (wl ++ (w1 ++ wr)) := by
  rw [vP_mem] at hP hP1 ⊢
  rw [vD_mem] at hD hD1 ⊢
  obtain ⟨n0, a0⟩ := hD
  obtain ⟨n1, a1⟩ := hD1
  simp only [List.map_append] at n0 ⊢
  rw [List.nodup_append] at n0
  obtain ⟨nl, n2, dl⟩ := n0
  rw [List.nodup_append] at n2
  obtain ⟨nc, nr, dc⟩ := n2
  have apart : ∀ q, (q ∈ wl ∨ q ∈ wr) → q.1 < H.size ∧ ¬ va_A wc H.size q.1 := by
    intro q hq
    have hm : q ∈ wl ++ (wc ++ wr) := by rcases hq with h | h <;> simp [h]
    have hlt := (hP q hm).lt
    refine ⟨hlt, fun h => ?_⟩
    rcases vA_mem.mp h with ⟨e, h⟩ | h
    · have hc : q.1 ∈ wc.map Prod.fst := List.mem_map.mpr ⟨_, h, rfl⟩
      rcases hq with hq | hq
      · exact dl q.1 (List.mem_map.mpr ⟨q, hq, rfl⟩) q.1 (List.mem_append_left _ hc) rfl
      · exact dc q.1 hc q.1 (List.mem_map.mpr ⟨q, hq, rfl⟩) rfl
    · omega
  refine ⟨fun q hq => ?_, ?_, fun q hq => ?_⟩
  · simp only [List.mem_append] at hq
    rcases hq with h | h | h
    · exact (hP q (by simp [h])).kept (hk q.1 (apart q (Or.inl h)).1 (apart q (Or.inl h)).2)
    · exact hP1 q h
    · exact (hP q (by simp [h])).kept (hk q.1 (apart q (Or.inr h)).1 (apart q (Or.inr h)).2)
  · rw [List.nodup_append]
    refine ⟨nl, ?_, ?_⟩
    · rw [List.nodup_append]
      refine ⟨n1, nr, ?_⟩
      intro x hx y hy hxy
      subst hxy
      obtain ⟨q, hq, rfl⟩ := List.mem_map.mp hx
      obtain ⟨r, hr, he⟩ := List.mem_map.mp hy
      exact (apart r (Or.inr hr)).2 (by rw [he]; exact a1 q hq)
    · intro x hx y hy hxy
      subst hxy
      obtain ⟨r, hr, he⟩ := List.mem_map.mp hx
      rcases List.mem_append.mp hy with h | h
      · obtain ⟨q, hq, h2⟩ := List.mem_map.mp h
        exact (apart r (Or.inl hr)).2 (by rw [he, ← h2]; exact a1 q hq)
      · exact dl x hx x (List.mem_append_right _ h) rfl
  · simp only [List.mem_append] at hq
    rcases hq with h | h | h
    · exact a0 q (by simp [h])
    · exact hF q.1 (a1 q h)
    · exact a0 q (by simp [h])
section
variable {p : Program} {l : Launch} {e : Env} {R : Room} {s : State} {m : MethodId} {args : Array Value} {below : List Frame} {meth : Method} {c : Code} {D : va_G} {ty : List (ClassId × FieldType)} {A : Nat → Prop} {cc : ByteArray} {nL ce sl : Nat} {ret : Option FieldType} {own : String} {Q : State → Prop} {w : va_W} {lv : List (Nat × Value)} {pc : Nat} {st : List Value}
theorem z_iret (X : CX p s m args meth c D ty A cc nL ret own) {U : Type} {rf : U → Int32} {wf : U → va_W} {Pu : U → Prop} (hQ : Q = MQ below (QiA D ty A rf wf Pu) args s ce sl A) (hr : ret = some .int) (u : U) {v : Int32} (hv : v = rf u) (hw : w = wf u) (hu : Pu u) (hdg : decode cc pc = .ok (.ireturn, 1)) : Z p l e R s m args below meth c D A nL ce sl Q w lv pc [.int v] := by
  subst hQ
  subst hw
  intro H locs ls hP hD hS hl
  exact W.iret X.x X.b (X.r.trans hr) (fun t ht hW => ⟨⟨v, u, rfl, ⟨hv, hu⟩, by rw [ht]; exact hP, va_K.moved hW.alike X.K, hD⟩, hS.F ht⟩) hS.2.2 hdg X.lk
theorem z_zret (X : CX p s m args meth c D ty A cc nL ret own) {U : Type} {rf : U → Int32} {wf : U → va_W} {Pu : U → Prop} (hQ : Q = MQ below (QiA D ty A rf wf Pu) args s ce sl A) (hr : ret = some .boolean) (u : U) {v : Int32} (hv : v = rf u) (hw : w = wf u) (hu : Pu u) (hn : narrow .boolean (.int v) = .int v) (hdg : decode cc pc = .ok (.ireturn, 1)) : Z p l e R s m args below meth c D A nL ce sl Q w lv pc [.int v] := by
  subst hQ
  subst hw
  intro H locs ls hP hD hS hl
  exact W.zret X.x X.b (X.r.trans hr) hn (fun t ht hW => ⟨⟨v, u, rfl, ⟨hv, hu⟩, by rw [ht]; exact hP, va_K.moved hW.alike X.K, hD⟩, hS.F ht⟩) hS.2.2 hdg X.lk
theorem z_vret (X : CX p s m args meth c D ty A cc nL ret own) {U : Type} {wf : U → va_W} {Pu : U → Prop} (hQ : Q = MQ below (QvA D ty A wf Pu) args s ce sl A) (hr : ret = none) (u : U) (hw : w = wf u) (hu : Pu u) (hdg : decode cc pc = .ok (.return_, 1)) : Z p l e R s m args below meth c D A nL ce sl Q w lv pc [] := by
  subst hQ
  subst hw
  intro H locs ls hP hD hS hl
  exact W.vret X.x X.b (X.r.trans hr) (fun t ht hW => ⟨⟨u, rfl, hu, by rw [ht]; exact hP, va_K.moved hW.alike X.K, hD⟩, hS.F ht⟩) hS.2.2 hdg X.lk
theorem z_callVi (X : CX p s m args meth c D ty A cc nL ret own) {U : Type} {y : MethodName} {rm : Room} {wc wl wr : va_W} {As : List Value} {rf : U → Int32} {b : Nat} {C : String} {wf : U → va_W} {Pu : U → Prop} {bytes : ByteArray} {maxL index n : Nat} {ret' : Option FieldType} (hC : CtI l y bytes maxL ret' rm D ty wc (.ref b :: As) rf wf Pu) (hG : GoodIn WS (wsV own index C y (Cond.code y bytes maxL ret' :: WS))) (hd : y.cls = C ∧ y.cls ≠ "java/lang/invoke/MethodHandle" ∧ y.cls ≠ "java/lang/invoke/VarHandle" ∧ (parseMethodDescriptor y.desc).map (fun d => d.parameters.length) = some n) (hrc : rm.cells = 0) (hrs : rm.slots = 0) (hR : rm.frames + 1 ≤ R.frames ∧ 8 + (maxL + 11) + rm.locals ≤ R.locals) (hf : ce ≤ R.cells ∧ sl ≤ R.slots) (ci q0 : Nat) {fs : List Value} {rc : vw_C} (hrecv : wc[q0]? = some (b, .inr (ci, fs))) (hc : vwCl[ci]? = some rc) (hrc2 : rc.1 = C) (hn : As.length = n) {st0 : List Value} (hst : st0 = As.reverse ++ .ref b :: st) (hW : (st.map fun v => v.category).sum ≤ 8) (hdg : decode cc pc = .ok (.invokevirtual index, 3)) (hw0 : w = wl ++ (wc ++ wr)) (kk : ∀ u : U, Pu u → Z p l e R s m args below meth c D A nL ce sl Q (wl ++ (wf u ++ wr)) lv (pc + 3) (.int (rf u) :: st)) : Z p l e R s m args below meth c D A nL ce sl Q w lv pc st0 := by
  subst hw0
  subst hst
  intro H locs ls hP hD hS hl
  obtain ⟨hPc, hDc⟩ := fr_part hP hD
  have hFc := fr_free hD hS X.hA
  refine va_calli (va_runV X.fix (hC H.size) (cwV n X.ts hG rfl hrc hrs hd hR) ⟨PcW_blind, by rw [← hrc2]; exact va_recv X.K hPc hc hrecv, fun U hU hW => ⟨rfl, by rw [hU], by rw [hU]; exact hPc, va_K.moved hW.alike X.K, hDc, by rw [hU]; exact ((X.S.kept hS.2.1).moved hW.alike).narrow hFc⟩⟩ rfl hn hl.1 rfl (lv_room hW) hdg hf) hS (fun q _ h => hFc q h) hFc (fun r1 u t H1 locs1 ht hvm hw hB hz1 hk1 hS1 => ?_)
  obtain ⟨rfl, hu⟩ := hw
  obtain ⟨hP1, hK1, hD1⟩ := hB
  rw [ht] at hP1
  obtain ⟨hP2, hD2⟩ := fr_join hP hD hk1 hFc hP1 hD1
  exact kk u hu H1 locs1 ls hP2 hD2 hS1 hl
theorem z_callVi0 (X : CX p s m args meth c D ty A cc nL ret own) {U : Type} {y : MethodName} {rm : Room} {wc: va_W} {As : List Value} {rf : U → Int32} {b : Nat} {C : String} {wf : U → va_W} {Pu : U → Prop} {bytes : ByteArray} {maxL index n : Nat} {ret' : Option FieldType} (hC : CtI l y bytes maxL ret' rm D ty wc (.ref b :: As) rf wf Pu) (hG : GoodIn WS (wsV own index C y (Cond.code y bytes maxL ret' :: WS))) (hd : y.cls = C ∧ y.cls ≠ "java/lang/invoke/MethodHandle" ∧ y.cls ≠ "java/lang/invoke/VarHandle" ∧ (parseMethodDescriptor y.desc).map (fun d => d.parameters.length) = some n) (hrc : rm.cells = 0) (hrs : rm.slots = 0) (hR : rm.frames + 1 ≤ R.frames ∧ 8 + (maxL + 11) + rm.locals ≤ R.locals) (hf : ce ≤ R.cells ∧ sl ≤ R.slots) (ci q0 : Nat) {fs : List Value} {rc : vw_C} (hrecv : wc[q0]? = some (b, .inr (ci, fs))) (hc : vwCl[ci]? = some rc) (hrc2 : rc.1 = C) (hn : As.length = n) {st0 : List Value} (hst : st0 = As.reverse ++ .ref b :: st) (hW : (st.map fun v => v.category).sum ≤ 8) (hdg : decode cc pc = .ok (.invokevirtual index, 3)) (kk : ∀ u : U, Pu u → Z p l e R s m args below meth c D A nL ce sl Q (wf u) lv (pc + 3) (.int (rf u) :: st)) : Z p l e R s m args below meth c D A nL ce sl Q wc lv pc st0 := z_callVi X hC hG hd hrc hrs hR hf ci q0 hrecv hc hrc2 hn hst hW hdg (wl := []) (wr := []) (by simp) (fun u hu => by simpa using kk u hu)
theorem z_callVv (X : CX p s m args meth c D ty A cc nL ret own) {U : Type} {y : MethodName} {rm : Room} {wc wl wr : va_W} {As : List Value} {b : Nat} {C : String} {wf : U → va_W} {Pu : U → Prop} {bytes : ByteArray} {maxL index n : Nat} {ret' : Option FieldType} (hC : CtV l y bytes maxL ret' rm D ty wc (.ref b :: As) wf Pu) (hG : GoodIn WS (wsV own index C y (Cond.code y bytes maxL ret' :: WS))) (hd : y.cls = C ∧ y.cls ≠ "java/lang/invoke/MethodHandle" ∧ y.cls ≠ "java/lang/invoke/VarHandle" ∧ (parseMethodDescriptor y.desc).map (fun d => d.parameters.length) = some n) (hrc : rm.cells = 0) (hrs : rm.slots = 0) (hR : rm.frames + 1 ≤ R.frames ∧ 8 + (maxL + 11) + rm.locals ≤ R.locals) (hf : ce ≤ R.cells ∧ sl ≤ R.slots) (ci q0 : Nat) {fs : List Value} {rc : vw_C} (hrecv : wc[q0]? = some (b, .inr (ci, fs))) (hc : vwCl[ci]? = some rc) (hrc2 : rc.1 = C) (hn : As.length = n) {st0 : List Value} (hst : st0 = As.reverse ++ .ref b :: st) (hW : (st.map fun v => v.category).sum ≤ 8) (hdg : decode cc pc = .ok (.invokevirtual index, 3)) (hw0 : w = wl ++ (wc ++ wr)) (kk : ∀ u : U, Pu u → Z p l e R s m args below meth c D A nL ce sl Q (wl ++ (wf u ++ wr)) lv (pc + 3) st) : Z p l e R s m args below meth c D A nL ce sl Q w lv pc st0 := by
  subst hw0
  subst hst
  intro H locs ls hP hD hS hl
  obtain ⟨hPc, hDc⟩ := fr_part hP hD
  have hFc := fr_free hD hS X.hA
  refine va_callv (va_runV X.fix (hC H.size) (cwV n X.ts hG rfl hrc hrs hd hR) ⟨PcW_blind, by rw [← hrc2]; exact va_recv X.K hPc hc hrecv, fun U hU hW => ⟨rfl, by rw [hU], by rw [hU]; exact hPc, va_K.moved hW.alike X.K, hDc, by rw [hU]; exact ((X.S.kept hS.2.1).moved hW.alike).narrow hFc⟩⟩ rfl hn hl.1 rfl (lv_room hW) hdg hf) hS (fun q _ h => hFc q h) hFc (fun u t H1 locs1 ht hvm hu hB hz1 hk1 hS1 => ?_)
  obtain ⟨hP1, hK1, hD1⟩ := hB
  rw [ht] at hP1
  obtain ⟨hP2, hD2⟩ := fr_join hP hD hk1 hFc hP1 hD1
  exact kk u hu H1 locs1 ls hP2 hD2 hS1 hl
theorem z_callVv0 (X : CX p s m args meth c D ty A cc nL ret own) {U : Type} {y : MethodName} {rm : Room} {wc: va_W} {As : List Value} {b : Nat} {C : String} {wf : U → va_W} {Pu : U → Prop} {bytes : ByteArray} {maxL index n : Nat} {ret' : Option FieldType} (hC : CtV l y bytes maxL ret' rm D ty wc (.ref b :: As) wf Pu) (hG : GoodIn WS (wsV own index C y (Cond.code y bytes maxL ret' :: WS))) (hd : y.cls = C ∧ y.cls ≠ "java/lang/invoke/MethodHandle" ∧ y.cls ≠ "java/lang/invoke/VarHandle" ∧ (parseMethodDescriptor y.desc).map (fun d => d.parameters.length) = some n) (hrc : rm.cells = 0) (hrs : rm.slots = 0) (hR : rm.frames + 1 ≤ R.frames ∧ 8 + (maxL + 11) + rm.locals ≤ R.locals) (hf : ce ≤ R.cells ∧ sl ≤ R.slots) (ci q0 : Nat) {fs : List Value} {rc : vw_C} (hrecv : wc[q0]? = some (b, .inr (ci, fs))) (hc : vwCl[ci]? = some rc) (hrc2 : rc.1 = C) (hn : As.length = n) {st0 : List Value} (hst : st0 = As.reverse ++ .ref b :: st) (hW : (st.map fun v => v.category).sum ≤ 8) (hdg : decode cc pc = .ok (.invokevirtual index, 3)) (kk : ∀ u : U, Pu u → Z p l e R s m args below meth c D A nL ce sl Q (wf u) lv (pc + 3) st) : Z p l e R s m args below meth c D A nL ce sl Q wc lv pc st0 := z_callVv X hC hG hd hrc hrs hR hf ci q0 hrecv hc hrc2 hn hst hW hdg (wl := []) (wr := []) (by simp) (fun u hu => by simpa using kk u hu)
theorem z_callSi (X : CX p s m args meth c D ty A cc nL ret own) {U : Type} {y : MethodName} {rm : Room} {wc wl wr : va_W} {As : List Value} {rf : U → Int32} {wf : U → va_W} {Pu : U → Prop} {bytes : ByteArray} {maxL index n : Nat} {ret' : Option FieldType} (hC : CtI l y bytes maxL ret' rm D ty wc As rf wf Pu) (hG : GoodIn WS (va_wsS own index y (Cond.code y bytes maxL ret' :: WS))) (hd : y.cls ≠ "java/lang/invoke/MethodHandle" ∧ y.cls ≠ "java/lang/invoke/VarHandle" ∧ (parseMethodDescriptor y.desc).map (fun d => d.parameters.length) = some n) (hrc : rm.cells = 0) (hrs : rm.slots = 0) (hR : rm.frames + 1 ≤ R.frames ∧ 8 + (maxL + 11) + rm.locals ≤ R.locals) (hf : ce ≤ R.cells ∧ sl ≤ R.slots) (hn : As.length = n) {st0 : List Value} (hst : st0 = As.reverse ++ st) (hW : (st.map fun v => v.category).sum ≤ 8) (hdg : decode cc pc = .ok (.invokestatic index, 3)) (hw0 : w = wl ++ (wc ++ wr)) (kk : ∀ u : U, Pu u → Z p l e R s m args below meth c D A nL ce sl Q (wl ++ (wf u ++ wr)) lv (pc + 3) (.int (rf u) :: st)) : Z p l e R s m args below meth c D A nL ce sl Q w lv pc st0 := by
  subst hw0
  subst hst
  intro H locs ls hP hD hS hl
  obtain ⟨hPc, hDc⟩ := fr_part hP hD
  have hFc := fr_free hD hS X.hA
  refine va_calli (va_runS X.fix (hC H.size) (va_cwS n X.ts hG rfl hrc hrs hd hR) ⟨PcW_blind, fun U hU hW => ⟨rfl, by rw [hU], by rw [hU]; exact hPc, va_K.moved hW.alike X.K, hDc, by rw [hU]; exact ((X.S.kept hS.2.1).moved hW.alike).narrow hFc⟩⟩ rfl hn hl.1 rfl (lv_room hW) hdg hf) hS (fun q _ h => hFc q h) hFc (fun r1 u t H1 locs1 ht hvm hw hB hz1 hk1 hS1 => ?_)
  obtain ⟨rfl, hu⟩ := hw
  obtain ⟨hP1, hK1, hD1⟩ := hB
  rw [ht] at hP1
  obtain ⟨hP2, hD2⟩ := fr_join hP hD hk1 hFc hP1 hD1
  exact kk u hu H1 locs1 ls hP2 hD2 hS1 hl
theorem z_callSi0 (X : CX p s m args meth c D ty A cc nL ret own) {U : Type} {y : MethodName} {rm : Room} {wc: va_W} {As : List Value} {rf : U → Int32} {wf : U → va_W} {Pu : U → Prop} {bytes : ByteArray} {maxL index n : Nat} {ret' : Option FieldType} (hC : CtI l y bytes maxL ret' rm D ty wc As rf wf Pu) (hG : GoodIn WS (va_wsS own index y (Cond.code y bytes maxL ret' :: WS))) (hd : y.cls ≠ "java/lang/invoke/MethodHandle" ∧ y.cls ≠ "java/lang/invoke/VarHandle" ∧ (parseMethodDescriptor y.desc).map (fun d => d.parameters.length) = some n) (hrc : rm.cells = 0) (hrs : rm.slots = 0) (hR : rm.frames + 1 ≤ R.frames ∧ 8 + (maxL + 11) + rm.locals ≤ R.locals) (hf : ce ≤ R.cells ∧ sl ≤ R.slots) (hn : As.length = n) {st0 : List Value} (hst : st0 = As.reverse ++ st) (hW : (st.map fun v => v.category).sum ≤ 8) (hdg : decode cc pc = .ok (.invokestatic index, 3)) (kk : ∀ u : U, Pu u → Z p l e R s m args below meth c D A nL ce sl Q (wf u) lv (pc + 3) (.int (rf u) :: st)) : Z p l e R s m args below meth c D A nL ce sl Q wc lv pc st0 := z_callSi X hC hG hd hrc hrs hR hf hn hst hW hdg (wl := []) (wr := []) (by simp) (fun u hu => by simpa using kk u hu)
theorem z_callSiN (X : CX p s m args meth c D ty A cc nL ret own) {U : Type} {y : MethodName} {rm : Room} {wc: va_W} {As : List Value} {rf : U → Int32} {wf : U → va_W} {Pu : U → Prop} {bytes : ByteArray} {maxL index n : Nat} {ret' : Option FieldType} (hC : CtI l y bytes maxL ret' rm D ty wc As rf wf Pu) (hG : GoodIn WS (va_wsS own index y (Cond.code y bytes maxL ret' :: WS))) (hd : y.cls ≠ "java/lang/invoke/MethodHandle" ∧ y.cls ≠ "java/lang/invoke/VarHandle" ∧ (parseMethodDescriptor y.desc).map (fun d => d.parameters.length) = some n) (hrc : rm.cells = 0) (hrs : rm.slots = 0) (hR : rm.frames + 1 ≤ R.frames ∧ 8 + (maxL + 11) + rm.locals ≤ R.locals) (hf : ce ≤ R.cells ∧ sl ≤ R.slots) (hn : As.length = n) {st0 : List Value} (hst : st0 = As.reverse ++ st) (hW : (st.map fun v => v.category).sum ≤ 8) (hdg : decode cc pc = .ok (.invokestatic index, 3)) (hwc : wc = []) (hwf : ∀ u, wf u = []) (kk : ∀ u : U, Pu u → Z p l e R s m args below meth c D A nL ce sl Q w lv (pc + 3) (.int (rf u) :: st)) : Z p l e R s m args below meth c D A nL ce sl Q w lv pc st0 := z_callSi X hC hG hd hrc hrs hR hf hn hst hW hdg (wl := []) (wr := w) (by subst hwc; rfl) (fun u hu => by rw [hwf u]; exact kk u hu)
theorem z_callSv (X : CX p s m args meth c D ty A cc nL ret own) {U : Type} {y : MethodName} {rm : Room} {wc wl wr : va_W} {As : List Value} {wf : U → va_W} {Pu : U → Prop} {bytes : ByteArray} {maxL index n : Nat} {ret' : Option FieldType} (hC : CtV l y bytes maxL ret' rm D ty wc As wf Pu) (hG : GoodIn WS (va_wsS own index y (Cond.code y bytes maxL ret' :: WS))) (hd : y.cls ≠ "java/lang/invoke/MethodHandle" ∧ y.cls ≠ "java/lang/invoke/VarHandle" ∧ (parseMethodDescriptor y.desc).map (fun d => d.parameters.length) = some n) (hrc : rm.cells = 0) (hrs : rm.slots = 0) (hR : rm.frames + 1 ≤ R.frames ∧ 8 + (maxL + 11) + rm.locals ≤ R.locals) (hf : ce ≤ R.cells ∧ sl ≤ R.slots) (hn : As.length = n) {st0 : List Value} (hst : st0 = As.reverse ++ st) (hW : (st.map fun v => v.category).sum ≤ 8) (hdg : decode cc pc = .ok (.invokestatic index, 3)) (hw0 : w = wl ++ (wc ++ wr)) (kk : ∀ u : U, Pu u → Z p l e R s m args below meth c D A nL ce sl Q (wl ++ (wf u ++ wr)) lv (pc + 3) st) : Z p l e R s m args below meth c D A nL ce sl Q w lv pc st0 := by
  subst hw0
  subst hst
  intro H locs ls hP hD hS hl
  obtain ⟨hPc, hDc⟩ := fr_part hP hD
  have hFc := fr_free hD hS X.hA
  refine va_callv (va_runS X.fix (hC H.size) (va_cwS n X.ts hG rfl hrc hrs hd hR) ⟨PcW_blind, fun U hU hW => ⟨rfl, by rw [hU], by rw [hU]; exact hPc, va_K.moved hW.alike X.K, hDc, by rw [hU]; exact ((X.S.kept hS.2.1).moved hW.alike).narrow hFc⟩⟩ rfl hn hl.1 rfl (lv_room hW) hdg hf) hS (fun q _ h => hFc q h) hFc (fun u t H1 locs1 ht hvm hu hB hz1 hk1 hS1 => ?_)
  obtain ⟨hP1, hK1, hD1⟩ := hB
  rw [ht] at hP1
  obtain ⟨hP2, hD2⟩ := fr_join hP hD hk1 hFc hP1 hD1
  exact kk u hu H1 locs1 ls hP2 hD2 hS1 hl
theorem z_callSv0 (X : CX p s m args meth c D ty A cc nL ret own) {U : Type} {y : MethodName} {rm : Room} {wc: va_W} {As : List Value} {wf : U → va_W} {Pu : U → Prop} {bytes : ByteArray} {maxL index n : Nat} {ret' : Option FieldType} (hC : CtV l y bytes maxL ret' rm D ty wc As wf Pu) (hG : GoodIn WS (va_wsS own index y (Cond.code y bytes maxL ret' :: WS))) (hd : y.cls ≠ "java/lang/invoke/MethodHandle" ∧ y.cls ≠ "java/lang/invoke/VarHandle" ∧ (parseMethodDescriptor y.desc).map (fun d => d.parameters.length) = some n) (hrc : rm.cells = 0) (hrs : rm.slots = 0) (hR : rm.frames + 1 ≤ R.frames ∧ 8 + (maxL + 11) + rm.locals ≤ R.locals) (hf : ce ≤ R.cells ∧ sl ≤ R.slots) (hn : As.length = n) {st0 : List Value} (hst : st0 = As.reverse ++ st) (hW : (st.map fun v => v.category).sum ≤ 8) (hdg : decode cc pc = .ok (.invokestatic index, 3)) (kk : ∀ u : U, Pu u → Z p l e R s m args below meth c D A nL ce sl Q (wf u) lv (pc + 3) st) : Z p l e R s m args below meth c D A nL ce sl Q wc lv pc st0 := z_callSv X hC hG hd hrc hrs hR hf hn hst hW hdg (wl := []) (wr := []) (by simp) (fun u hu => by simpa using kk u hu)
end
