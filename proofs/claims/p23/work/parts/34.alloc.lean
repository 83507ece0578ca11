section
variable {p : Program} {l : Launch} {e : Env} {R : Room} {s : State} {m : MethodId} {args : Array Value} {below : List Frame} {meth : Method} {c : Code} {D : va_G} {kI kC kQ : ClassId} {ty : List (ClassId × FieldType)} {A : Nat → Prop} {cc : ByteArray} {nL ce sl : Nat} {ret : Option FieldType} {own : String} {Q : State → Prop} {w : va_W} {lv : List (Nat × Value)} {pc : Nat} {st : List Value} {o r : Nat → Nat} {ad : Nat → Nat → Nat} {S : SLS} {C C2 : CS} {q : Nat → Nat} {wt : va_W}
theorem z_getT (X : CX p s m args meth c D ty A cc nL ret own) {nm : String} {f : Nat → Int32} (hT : TB nm f A s s.heap) {index : Nat} (hlink : Cond.fieldLink own index "ShadowLatches$Circuit" nm "[I" ∈ WS) (hdg : decode cc pc = .ok (.getstatic index, 3)) (kk : ∀ t : Nat, va_T .int t 7 (fun j => .int (f j)) A s s.heap → Z p l e R s m args below meth c D A nL ce sl Q w lv (pc + 3) (.ref t :: st)) : Z p l e R s m args below meth c D A nL ce sl Q w lv pc st := by
  obtain ⟨t, hz, ht⟩ := hT
  exact fun H locs ls hP hD hS hl => va_gets X.x X.b hz hS X.ow (X.ts _ hlink) (fun _ h => h) hdg (kk t ht H locs ls hP hD hS hl)
theorem z_ti (X : CX p s m args meth c D ty A cc nL ret own) {t N : Nat} {f : Nat → Int32} (hT : va_T .int t N (fun j => .int (f j)) A s s.heap) {i : Int32} {j : Nat} (hin : vp_in i N) (hj : i.toNatClampNeg = j) (hdg : decode cc pc = .ok (.iaload, 1)) (kk : Z p l e R s m args below meth c D A nL ce sl Q w lv (pc + 1) (.int (f j) :: st)) : Z p l e R s m args below meth c D A nL ce sl Q w lv pc (.int i :: .ref t :: st) := by
  subst hj
  exact fun H locs ls hP hD hS hl => va_ti X.x X.b hT hS hin rfl hdg (kk H locs ls hP hD hS hl)
end
section
variable {p : Program} {l : Launch} {e : Env} {R : Room} {s : State} {m : MethodId} {args : Array Value} {below : List Frame} {meth : Method} {c : Code} {D : va_G} {kI kC kQ : ClassId} {A : Nat → Prop} {cc : ByteArray} {nL ce sl : Nat} {ret : Option FieldType} {own : String} {Q : State → Prop} {w : va_W} {lv : List (Nat × Value)} {pc : Nat} {st : List Value} {o r : Nat → Nat} {ad : Nat → Nat → Nat} {S : SLS} {C C2 : CS} {q : Nat → Nat} {wt : va_W}
theorem K_int (X : CX p s m args meth c D (tysG kI kC kQ) A cc nL ret own) : s.vm.findClass "[I" = some kI := by
  have h := (X.K.2 0 _ rfl).2
  have e : "[" ++ FieldType.int.toString = "[I" := by decide +kernel
  rw [← e]
  exact h
theorem K_char (X : CX p s m args meth c D (tysG kI kC kQ) A cc nL ret own) : s.vm.findClass "[C" = some kC := va_nm_char (X.K.2 1 _ rfl).2
theorem z_getF (X : CX p s m args meth c D (tysG kI kC kQ) A cc nL ret own) {index : Nat} (hlink : Cond.fieldLink own index "ShadowLatches$Circuit" "FIRST_SETTINGS" "[I" ∈ WS) (hdg : decode cc pc = .ok (.getstatic index, 3)) (kk : ∀ t : Nat, FC kI A s.heap t → Z p l e R s m args below meth c D A nL ce sl Q w lv (pc + 3) (.ref t :: st)) : Z p l e R s m args below meth c D A nL ce sl Q w lv pc st := by
  obtain ⟨t, k, hz, hk, ht⟩ := X.S.2.2.1
  cases hk.symm.trans (K_int X)
  exact fun H locs ls hP hD hS hl => va_gets X.x X.b hz hS X.ow (X.ts _ hlink) (fun _ h => h) hdg (kk t ht H locs ls hP hD hS hl)
theorem z_clone (X : CX p s m args meth c D (tysG kI kC kQ) A cc nL ret own) {index t : Nat} (hF : FC kI A s.heap t) (hlink : Cond.methodLink own index ⟨"[I", "clone", "()Ljava/lang/Object;"⟩ ∈ WS) (hframes : 1 ≤ R.frames) (hlocals : (st.map fun v => v.category).sum + 14 ≤ R.locals) (hcells : ce + 1 ≤ R.cells) (hslots : sl + 7 ≤ R.slots) (f : Nat → va_W) (hf : ∀ q, w ++ [(q, .inl (kI, 7, .inl firstS))] = f q) (hdg : decode cc pc = .ok (.invokevirtual index, 3)) (kk : ∀ q : Nat, Z p l e R s m args below meth c D A nL (ce + 1) (sl + 7) Q (f q) lv (pc + 3) (.ref q :: st)) : Z p l e R s m args below meth c D A nL ce sl Q w lv pc (.ref t :: st) := by
  obtain ⟨cell, ht, hcls, hns, hun, hsl, hnt⟩ := hF
  intro H locs ls hP hD hS hl
  have hlt : t < s.heap.size := (Array.getElem?_eq_some_iff.mp ht).1
  have htH : H[t]? = some cell := (hS.2.1 t hlt hnt).trans ht
  have hsz : cell.slots.size = 7 := by rw [hsl]; exact arrV_size _ _ _
  have hcellE : ({ cls := cell.cls, slots := cell.slots } : Cell) = vp_cell kI (7, .inl firstS) := by rw [hcls, hsl]; rfl
  obtain ⟨c0, t0, f1, f2, f3⟩ := Cond.castable_spec (va_Nw.use (A := args) rfl X.S.2.2.2.1)
  cases (K_int X).symm.trans f1
  intro T hT X0
  have hcellT : T.heap[t]? = some cell := by rw [hT]; exact htH
  obtain ⟨-, kA, hkA, comp, hkind⟩ := State.isArrayOf_alike X0.warmed.alike ((X.K.2 0 _ rfl).1 0 (fun _ => .null))
  obtain ⟨-, kS, hkS, compS, hkindS⟩ := (X.K.2 0 _ rfl).1 0 (fun _ => .null)
  obtain ⟨vm', X', stp⟩ := X0.cloneArray X.x X.ow (X.ts _ hlink) (X.ts _ wd1_24) (X.ts _ wd1_25) (X.ts _ wd1_26) (X.ts _ wd1_27) (a := t) (cell := cell) hcellT (fun k h => by rw [h] at hns; cases hns) hun (by rw [hcls]; exact K_int X) f2 (by rw [hcls]; exact f3)
    (fun i v hv => by
      have hv2 : fits .int v = true := by
        rw [hsl] at hv
        exact va_fit (ty := .int) (fun _ _ => rfl) i v hv
      rw [hcls]
      have hk' : T.vm.classes[kI]? = some kA := hkA
      simpa [State.fitsSlot, State.slotType?, hk', hkind] using hv2)
    (g := F0 m pc ls (.ref t :: st)) rfl (by rw [X.ml]; exact hl.1) rfl (by rw [X.b]; exact hdg) hframes (by show 2 * 0 + _ + 14 ≤ _; omega) hcells (by rw [hsz]; exact hslots) (hloader := by rw [hcls]; exact Vm.clonesLoader_of_array hkS hkindS)
  rw [hcellE, hsz] at X'
  generalize hH1 : H.push (vp_cell kI (7, .inl firstS)) = H1
  have z1 : H1.size = H.size + 1 := by rw [← hH1, Array.size_push]
  have e1 : H1[H.size]? = some (vp_cell kI (7, .inl firstS)) := by rw [← hH1, Array.getElem?_push_size]
  have o1 : ∀ q : Nat, q < H.size → H1[q]? = H[q]? := fun q hq => by rw [← hH1, Array.getElem?_push, if_neg (Nat.ne_of_lt hq)]
  have hk : ∀ (k : Nat) (y : Nat × va_E), w[k]? = some y → H1[y.1]? = H[y.1]? := fun k y hy => o1 y.1 ((hP k y hy).lt)
  have hP2 : va_P D vwCl (w ++ [(H.size, .inl (kI, 7, .inl firstS))]) H1 := (hP.kept hk).app (fun k y hy => by
      have hz : k < 1 := (List.getElem?_eq_some_iff.mp hy).1
      rw [show k = 0 by omega] at hy
      cases hy
      exact e1)
  have hD2 : va_D A (w ++ [(H.size, .inl (kI, 7, .inl firstS))]) := hD.push hP rfl (X.hA _ hS.1)
  rw [hf H.size] at hP2 hD2
  obtain ⟨t9, b1, b2⟩ := kk H.size H1 locs ls hP2 hD2 ⟨Nat.le_trans hS.1 (by omega), fun y h1 h2 => (o1 y (Nat.lt_of_lt_of_le h1 hS.1)).trans (hS.2.1 y h1 h2), hS.2.2⟩ hl
    ((T.setVm vm').pushCell (vp_cell kI (7, .inl firstS))) (by rw [← hH1, ← hT]; rfl) X'
  refine ⟨t9, stp t9 ?_, b2⟩
  rw [hcellE, hT]
  exact b1
theorem z_castI (X : CX p s m args meth c D (tysG kI kC kQ) A cc nL ret own) (q0 : Nat) {a index : Nat} {x : vp_A} (ha : w[q0]? = some (a, .inl (kI, x))) (hlink : Cond.classLink own index "[I" ∈ WS) (hdg : decode cc pc = .ok (.checkcast index, 3)) (kk : Z p l e R s m args below meth c D A nL ce sl Q w lv (pc + 3) (.ref a :: st)) : Z p l e R s m args below meth c D A nL ce sl Q w lv pc (.ref a :: st) := fun H locs ls hP hD hS hl => va_castA X.x X.b X.ow (X.ts _ hlink) hP q0 ha (K_int X) hdg (kk H locs ls hP hD hS hl)
theorem z_newI (X : CX p s m args meth c D (tysG kI kC kQ) A cc nL ret own) {n : Int32} {N' : Nat} (hn : ¬ n < 0) (hN : n.toNatClampNeg = N') (hbytes : N' * componentBytes .int ≤ 536870912) (hcells : ce + 1 ≤ R.cells) (hslots : sl + N' ≤ R.slots) (f : Nat → va_W) (hf : ∀ q, w ++ [(q, .inl (kI, N', .inl (fun _ => 0)))] = f q) (hdg : decode cc pc = .ok (.newarray .int, 2)) (kk : ∀ q : Nat, Z p l e R s m args below meth c D A nL (ce + 1) (sl + N') Q (f q) lv (pc + 2) (.ref q :: st)) : Z p l e R s m args below meth c D A nL ce sl Q w lv pc (.int n :: st) := by
  refine fun H locs ls hP hD hS hl => va_newa (atype := .int) (a0 := (N', .inl (fun _ => 0))) X.x X.b (X.ts _ wd1_107) (ty := .int) rfl X.K hP hD hS X.hA (fun _ => rfl) hn hN hbytes hcells hslots hdg (fun q cA H1 hK1 hP1 hD1 hS1 => ?_)
  have h := (hK1.2 3 _ rfl).2
  have e : "[" ++ FieldType.toString .int = "[I" := by decide +kernel
  have h2 : s.vm.findClass "[I" = some cA := by rw [← e]; exact h
  cases (K_int X).symm.trans h2
  rw [hf q] at hP1 hD1
  exact kk q H1 locs ls hP1 hD1 hS1 hl
theorem z_newC (X : CX p s m args meth c D (tysG kI kC kQ) A cc nL ret own) {n : Int32} {N' : Nat} (hn : ¬ n < 0) (hN : n.toNatClampNeg = N') (hbytes : N' * componentBytes .char ≤ 536870912) (hcells : ce + 1 ≤ R.cells) (hslots : sl + N' ≤ R.slots) (f : Nat → va_W) (hf : ∀ q, w ++ [(q, .inl (kC, N', .inl (fun _ => 0)))] = f q) (hdg : decode cc pc = .ok (.newarray .char, 2)) (kk : ∀ q : Nat, Z p l e R s m args below meth c D A nL (ce + 1) (sl + N') Q (f q) lv (pc + 2) (.ref q :: st)) : Z p l e R s m args below meth c D A nL ce sl Q w lv pc (.int n :: st) := by
  refine fun H locs ls hP hD hS hl => va_newa (atype := .char) (a0 := (N', .inl (fun _ => 0))) X.x X.b (X.ts _ wd1_131) (ty := .char) rfl X.K hP hD hS X.hA (fun _ => rfl) hn hN hbytes hcells hslots hdg (fun q cA H1 hK1 hP1 hD1 hS1 => ?_)
  have h := (hK1.2 3 _ rfl).2
  have e : "[" ++ FieldType.toString .char = "[C" := by decide +kernel
  have h2 : s.vm.findClass "[C" = some cA := by rw [← e]; exact h
  cases (K_char X).symm.trans h2
  rw [hf q] at hP1 hD1
  exact kk q H1 locs ls hP1 hD1 hS1 hl
theorem z_newQ (X : CX p s m args meth c D (tysG kI kC kQ) A cc nL ret own) {n : Int32} {N' index : Nat} (hclink : Cond.classLink own index "ShadowLatches$Circuit" ∈ WS) (hn : ¬ n < 0) (hN : n.toNatClampNeg = N') (hbytes : N' * 4 ≤ 536870912) (hcells : ce + 1 ≤ R.cells) (hslots : sl + N' ≤ R.slots) (f : Nat → va_W) (hf : ∀ q, w ++ [(q, .inl (kQ, N', .inr (.inr (.inr (.inr (fun _ => none))))))] = f q) (hdg : decode cc pc = .ok (.anewarray index, 3)) (kk : ∀ q : Nat, Z p l e R s m args below meth c D A nL (ce + 1) (sl + N') Q (f q) lv (pc + 3) (.ref q :: st)) : Z p l e R s m args below meth c D A nL ce sl Q w lv pc (.int n :: st) := by
  refine fun H locs ls hP hD hS hl => va_newq X.x X.b X.ow (X.ts _ hclink) X.S.2.2.2.2 X.K hP hD hS X.hA hn hN hbytes hcells hslots hdg (fun q cA H1 hK1 hP1 hD1 hS1 => ?_)
  obtain ⟨k1, c1, g1, g2, g3, g4⟩ := (hK1.2 3 _ rfl).2
  obtain ⟨k2, c2, g5, g6, g7, g8⟩ := (X.K.2 2 _ rfl).2
  cases g8.symm.trans g4
  rw [hf q] at hP1 hD1
  exact kk q H1 locs ls hP1 hD1 hS1 hl
theorem z_new (X : CX p s m args meth c D (tysG kI kC kQ) A cc nL ret own) {C : String} {T : u_T} {N ci index : Nat} (hin : ∀ w ∈ u_ws C T N, w ∈ WS) (ty0 : Nat → FieldType) (hty : ∀ k, k < N → parseFieldDescriptor (T k).2.2.1 = some (ty0 k)) (hcl : Cond.classLink own index C ∈ WS) (hinst : Cond.instantiable C N ∈ WS) (hini : Cond.initialized C ∈ WS) (hc : vwCl[ci]? = some (C, T, N)) (fs : List Value) (hfs : ∀ j, j < N → defaultValue (ty0 j) = vp_V fs j) (hcells : ce + 1 ≤ R.cells) (hslots : sl + N ≤ R.slots) (f : Nat → va_W) (hf : ∀ q, w ++ [(q, .inr (ci, fs))] = f q) (hdg : decode cc pc = .ok (.new index, 3)) (kk : ∀ q : Nat, Z p l e R s m args below meth c D A nL (ce + 1) (sl + N) Q (f q) lv (pc + 3) (.ref q :: st)) : Z p l e R s m args below meth c D A nL ce sl Q w lv pc st := by
  refine fun H locs ls hP hD hS hl => va_new X.x X.b X.ts hin ty0 hty X.ow (X.ts _ hcl) (X.ts _ hinst) (X.ts _ hini) X.K hP hD hS X.hA hc hfs hcells hslots hdg (fun q H1 hP1 hD1 hS1 => ?_)
  rw [hf q] at hP1 hD1
  exact kk q H1 locs ls hP1 hD1 hS1 hl
theorem z_objInit (X : CX p s m args meth c D (tysG kI kC kQ) A cc nL ret own) {index a : Nat} (hlink : Cond.methodLink own index Lib.objectInit ∈ WS) (hframes : 1 ≤ R.frames) (hlocals : (st.map fun v => v.category).sum + 12 ≤ R.locals) (hdg : decode cc pc = .ok (.invokespecial index, 3)) (kk : Z p l e R s m args below meth c D A nL ce sl Q w lv (pc + 3) st) : Z p l e R s m args below meth c D A nL ce sl Q w lv pc (.ref a :: st) := fun H locs ls hP hD hS hl => W.objInit X.x X.b X.ow (X.ts _ hlink) (X.ts _ wd1_13) (X.ts _ wd1_14) rfl (hl.1.trans X.ml.symm) rfl hdg hframes (by show 2 * 0 + _ + 12 ≤ _; omega) (kk H locs ls hP hD hS hl)
end
/-! contracts of constructors -/
def CtN {U : Type} (l : Launch) (y : MethodName) (bytes : ByteArray) (maxL : Nat) (rm : Room) (D : va_G) (ty : List (ClassId × FieldType)) (wc : va_W) (av : List Value) (wf : U → va_W) (Pu : U → Prop) (mc ms : Nat) : Prop := ∀ sz : Nat, Met l y (Cond.code y bytes maxL none :: WS) rm (PcW D ty sz wc av) (QvA D ty (va_A wc sz) wf Pu) mc ms (va_A wc sz)
theorem met_ZN {U : Type} {l : Launch} {y : MethodName} {own : String} {rm : Room} {D : va_G} {ty : List (ClassId × FieldType)} {wc : va_W} {av : List Value} {cc : ByteArray} {maxL mc ms : Nat} {wf : U → va_W} {Pu : U → Prop} (hy : plainName y.cls = true) (ho : y.cls = own) (hlen : (lg_sl av).length ≤ maxL)
    (body : ∀ (p : Program) (e : Env) (s : State) (m : MethodId) (args : Array Value) (below : List Frame) (meth : Method) (c : Code) (A : Nat → Prop) (Q : State → Prop), CX p s m args meth c D ty A cc maxL none own → meth.name = y.name → Q = MQ below (QvA D ty A wf Pu) args s mc ms A → Z p l e rm s m args below meth c D A maxL 0 0 Q wc (lv_args 0 av) 0 []) : CtN l y cc maxL rm D ty wc av wf Pu mc ms := by
  intro sz
  refine Met.ofW (cc := cc) (maxL := maxL) (ret := none) hy rfl ?_
  intro p e s m args below meth c s₁ B hml hv
  obtain ⟨rfl, hsz, hP, hK, hD0, hST⟩ := hv
  have hts : ∀ w ∈ WS, w.before av.toArray s = true := fun w h => atoms_spec (ws := Cond.code y cc maxL none :: WS) B.pre w (List.mem_cons_of_mem _ h)
  have hown : s.vm.findClass own = some m.cls := by rw [← ho]; exact findClass_of_methodNamed B.named
  subst hsz
  have hl := lv_entry av (n := maxL) hlen
  rw [lg_entry_eq]
  exact body p e s m av.toArray below meth c _ _ ⟨B.exec, B.bytes, B.returns, hml, hown, hts, B.notSynchronized, hK, fun q h => Or.inr h, hST⟩ (name_of_methodNamed B.named B.method).1 rfl s.heap [] _ hP hD0.self va_S.rf hl
theorem gI {own : String} {idx maxL : Nat} {y : MethodName} {b : ByteArray} (h5 : Cond.code y b maxL none ∈ WS) : GoodIn WS (Cond.code y b maxL none :: WS) := by
  intro w hw
  have h : w ∈ WS := by
    rcases List.mem_cons.mp hw with rfl | h
    · exact h5
    · exact h
  exact ⟨h, good_of_word (WS_good w h)⟩
section
variable {p : Program} {l : Launch} {e : Env} {R : Room} {s : State} {m : MethodId} {args : Array Value} {below : List Frame} {meth : Method} {c : Code} {D : va_G} {kI kC kQ : ClassId} {ty : List (ClassId × FieldType)} {A : Nat → Prop} {cc : ByteArray} {nL ce sl : Nat} {ret : Option FieldType} {own : String} {Q : State → Prop} {w : va_W} {lv : List (Nat × Value)} {pc : Nat} {st : List Value} {o r : Nat → Nat} {ad : Nat → Nat → Nat} {S : SLS} {C C2 : CS} {q : Nat → Nat} {wt : va_W}
theorem z_callI (X : CX p s m args meth c D ty A cc nL ret own) {U : Type} {y : MethodName} {rm : Room} {wc wl wr : va_W} {As : List Value} {b : Nat} {wf : U → va_W} {Pu : U → Prop} {bytes : ByteArray} {maxL index n mc ms : Nat} (hC : CtN l y bytes maxL rm D ty wc (.ref b :: As) wf Pu mc ms) (hcode : Cond.code y bytes maxL none ∈ WS) (hini : Cond.initialized y.cls ∈ WS) (hlink : Cond.methodLink own index y ∈ WS) (hinst : Cond.instanceMethod y ∈ WS) (hy1 : y.name = "<init>") (hd : y.cls ≠ "java/lang/invoke/MethodHandle" ∧ y.cls ≠ "java/lang/invoke/VarHandle" ∧ (parseMethodDescriptor y.desc).map (fun d => d.parameters.length) = some n) (hrc : rm.cells = mc) (hrs : rm.slots = ms) (hR : rm.frames + 1 ≤ R.frames ∧ 8 + (maxL + 11) + rm.locals ≤ R.locals) (hf : ce + mc ≤ R.cells ∧ sl + ms ≤ R.slots) (hn : As.length = n) {st0 : List Value} (hst : st0 = As.reverse ++ .ref b :: st) (hW : (st.map fun v => v.category).sum ≤ 8) (hdg : decode cc pc = .ok (.invokespecial index, 3)) (hw0 : w = wl ++ (wc ++ wr)) (kk : ∀ u : U, Pu u → Z p l e R s m args below meth c D A nL (ce + mc) (sl + ms) Q (wl ++ (wf u ++ wr)) lv (pc + 3) st) : Z p l e R s m args below meth c D A nL ce sl Q w lv pc st0 := by
  subst hw0
  subst hst
  intro H locs ls hP hD hS hl
  obtain ⟨hPc, hDc⟩ := fr_part hP hD
  have hFc := fr_free hD hS X.hA
  refine va_callv (va_runI X.fix (hC H.size) (cwI n X.ts (gI (own := own) (idx := index) hcode) rfl hrc hrs (X.ts _ hini) (X.ts _ hlink) (X.ts _ hinst) hy1 hd hR) ⟨PcW_blind, fun U hU hW => ⟨rfl, by rw [hU], by rw [hU]; exact hPc, va_K.moved hW.alike X.K, hDc, by rw [hU]; exact ((X.S.kept hS.2.1).moved hW.alike).narrow hFc⟩⟩ rfl hn hl.1 rfl (lv_room hW) hdg hf) hS (fun q _ h => hFc q h) hFc (fun u t H1 locs1 ht hvm hu hB hz1 hk1 hS1 => ?_)
  obtain ⟨hP1, hK1, hD1⟩ := hB
  rw [ht] at hP1
  obtain ⟨hP2, hD2⟩ := fr_join hP hD hk1 hFc hP1 hD1
  exact kk u hu H1 locs1 ls hP2 hD2 hS1 hl
end
