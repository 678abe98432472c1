/-! ===== the launch's classes, by number; a method's fixed surroundings; the walk's goal ===== -/
abbrev KK : Type := va_G × (Nat → ClassId)
def ktys (κ : KK) : List (ClassId × FieldType) := [(κ.2 0, .int), (κ.2 1, .long), (κ.2 2, .byte), (κ.2 3, .boolean), (κ.2 4, .object RX7), (κ.2 5, .object RX8)]
def KN (U : State) : Prop := va_AO RX7 U ∧ va_AO RX8 U ∧ va_Nw (.castable "[B" "java/lang/Cloneable") U ∧
  va_Nw (.methodLinkNest RX9 30 yX1_init RX9) U ∧ va_Nw (.methodLinkNest RX9 49 yX0_init RX9) U ∧ va_Nw (.methodLinkNest RX9 56 yX6_init RX9) U ∧ va_Nw (.methodLinkNest RX9 63 yX2_init RX9) U ∧ va_Nw (.methodLinkNest RX9 70 yX4_init RX9) U ∧ va_Nw (.methodLinkNest RX9 77 yX3_init RX9) U ∧ va_Nw (.methodLinkNest RX3 11 yX1_init RX9) U
def KC (κ : KK) (U : State) : Prop := va_K κ.1 vwCl (ktys κ) U ∧ KN U
theorem KC.warm {κ : KK} {s U : State} (hW : s.WarmedH U.vm) (h : KC κ s) : KC κ U := by
  obtain ⟨h0, h1, h2, h3, h4, h5, h6, h7, h8, h9, h10⟩ := h
  exact ⟨va_K.moved hW.alike h0, h1.moved hW.alike, h2.moved hW.alike, h3.warmC hW, h4.warmM hW, h5.warmM hW, h6.warmM hW, h7.warmM hW, h8.warmM hW, h9.warmM hW, h10.warmM hW⟩
theorem KC.same {κ : KK} {s U : State} (hW : s.vm = U.vm) (h : KC κ s) : KC κ U := by
  obtain ⟨h0, h1, h2, h3, h4, h5, h6, h7, h8, h9, h10⟩ := h
  have hA : s.vm.Alike U.vm := hW ▸ Vm.Alike.refl s.vm
  exact ⟨va_K.moved hA h0, h1.moved hA, h2.moved hA, h3.same rfl hW, h4.same rfl hW, h5.same rfl hW, h6.same rfl hW, h7.same rfl hW, h8.same rfl hW, h9.same rfl hW, h10.same rfl hW⟩
def Cx (κ : KK) (p : Program) (s : State) (m : MethodId) (args : Array Value) (meth : Method) (c : Code) (cc : ByteArray) (nL : Nat) (own : String) (ret : Option FieldType) : Prop :=
  p.tables.exec = Jvm.exec ∧ c.code = cc ∧ c.maxLocals = nL ∧ s.vm.findClass own = some m.cls ∧ (∀ w ∈ gw, w.before args s = true) ∧ KC κ s ∧ meth.sig.returnType = ret ∧ meth.locks = false
def GG (p : Program) (l : Launch) (e : Env) (R : Room) (s : State) (m : MethodId) (args : Array Value) (below : List Frame) (meth : Method) (c : Code) (Q : State → Prop) (A : Nat → Prop) (nL cells slots : Nat) (B : Heap → Prop) (pc : Nat) (lv : List (Nat × Value)) (st : List Value) : Prop :=
  ∀ (H : Heap) (locs : List Loc) (ls : Array Slot), lv_has ls nL lv → B H → va_S A s.heap H locs → W p l e R s m args below meth c H locs cells slots Q (F0 m pc ls st)
def Qg (A : Nat → Prop) (v : Option Value) (B' : Heap → Prop) : Array Value → State → Outcome → State → Prop := fun _ st oc t => oc = .returned v ∧ B' t.heap ∧ va_F A st t
/-- a method's contract: from the world B it answers v, in the world B' -/
def MM (κ : KK) (l : Launch) (y : MethodName) (cc : ByteArray) (nL : Nat) (ret : Option FieldType) (rm : Room) (A : Nat → Prop) (avs : List Value) (B : Heap → Prop) (v : Option Value) (B' : Heap → Prop) : Prop :=
  Met l y (wz y cc nL ret) rm (va_Pc avs (fun U => B U.heap ∧ KC κ U)) (Qg A v B') rm.cells rm.slots A
theorem MM.of {κ : KK} {l : Launch} {y : MethodName} {cc : ByteArray} {nL : Nat} {ret : Option FieldType} {rm : Room} {A : Nat → Prop} {avs : List Value} {B : Heap → Prop} {v : Option Value} {B' : Heap → Prop} (hy : plainName y.cls = true) (hlen : (lg_sl avs).length ≤ nL)
    (h : ∀ (p : Program) (e : Env) (s : State) (m : MethodId) (below : List Frame) (meth : Method) (c : Code), Cx κ p s m avs.toArray meth c cc nL y.cls ret → meth.name = y.name → GG p l e rm s m avs.toArray below meth c (MQ below (Qg A v B') avs.toArray s rm.cells rm.slots A) A nL 0 0 B 0 (lv_args 0 avs) []) : MM κ l y cc nL ret rm A avs B v B' := by
  refine Met.ofW (cc := cc) (maxL := nL) (ret := ret) hy rfl ?_
  intro p e s m args below meth c s₁ Bd hml hv
  obtain ⟨rfl, hB, hK⟩ := hv
  have hts := atoms_spec (ws := wz y cc nL ret) Bd.pre
  have hg := h p e s m below meth c ⟨Bd.exec, Bd.bytes, hml, findClass_of_methodNamed Bd.named, fun w hw => hts w (List.mem_cons_of_mem _ hw), hK, Bd.returns, Bd.notSynchronized⟩ (name_of_methodNamed Bd.named Bd.method).1
  rw [lg_entry_eq]
  exact hg s.heap [] _ (lv_entry avs hlen) hB va_S.rf
/-! views of a world: a cell that it has; what it becomes when a cell changes, when one comes -/
def rdv (κ : KK) (B : Heap → Prop) (a : Nat) (e : va_E) : Prop := ∀ H : Heap, B H → va_at κ.1 vwCl (a, e) H
def wrv (κ : KK) (A : Nat → Prop) (B : Heap → Prop) (a : Nat) (e : va_E) (B' : Heap → Prop) : Prop := A a ∧ ∀ H H1 : Heap, B H → (∀ q : Nat, q ≠ a → H1[q]? = H[q]?) → H1.size = H.size → va_at κ.1 vwCl (a, e) H1 → B' H1
def nwv (κ : KK) (A : Nat → Prop) (B : Heap → Prop) (n : Nat) (e : va_E) (B' : Heap → Prop) : Prop := A n ∧ (∀ H : Heap, B H → H.size = n) ∧ ∀ H H1 : Heap, B H → (∀ q : Nat, q < n → H1[q]? = H[q]?) → H1.size = n + 1 → va_at κ.1 vwCl (n, e) H1 → B' H1
/-- a class of the list, with its fields -/
def FI (ci : Nat) (CN : String) (T : u_T) (N : Nat) (ty : Nat → FieldType) : Prop := (∀ w ∈ u_ws CN T N, w ∈ gw) ∧ vwCl[ci]? = some (CN, T, N) ∧ (∀ k, k < N → parseFieldDescriptor (T k).2.2.1 = some (ty k)) ∧ (∀ a, a < N → ∀ b, b < N → a ≠ b → (T a).2.1 ≠ (T b).2.1)

theorem fi_X0 : FI 0 RX0 TX0 4 tyX0 := ⟨tw_u_X0, rfl, tyX0_ok, nmX0⟩
theorem fi_X1 : FI 1 RX1 TX1 5 tyX1 := ⟨tw_u_X1, rfl, tyX1_ok, nmX1⟩
theorem fi_X2 : FI 2 RX2 TX2 5 tyX2 := ⟨tw_u_X2, rfl, tyX2_ok, nmX2⟩
theorem fi_X3 : FI 3 RX3 TX3 4 tyX3 := ⟨tw_u_X3, rfl, tyX3_ok, nmX3⟩
theorem fi_X4 : FI 4 RX4 TX4 2 tyX4 := ⟨tw_u_X4, rfl, tyX4_ok, nmX4⟩
theorem fi_X5 : FI 5 RX5 TX5 4 tyX5 := ⟨tw_u_X5, rfl, tyX5_ok, nmX5⟩
theorem fi_X6 : FI 6 RX6 TX6 1 tyX6 := ⟨tw_u_X6, rfl, tyX6_ok, nmX6⟩
theorem fi_X7 : FI 7 RX7 TX7 2 tyX7 := ⟨tw_u_X7, rfl, tyX7_ok, nmX7⟩
theorem fi_X8 : FI 8 RX8 TX8 4 tyX8 := ⟨tw_u_X8, rfl, tyX8_ok, nmX8⟩
theorem fi_X9 : FI 9 RX9 TX9 16 tyX9 := ⟨tw_u_X9, rfl, tyX9_ok, nmX9⟩
theorem fi_X10 : FI 10 RX10 TX10 41 tyX10 := ⟨tw_u_X10, rfl, tyX10_ok, nmX10⟩
section GROWS
variable {κ : KK} {p : Program} {l : Launch} {e : Env} {R : Room} {s : State} {m : MethodId} {args : Array Value} {below : List Frame} {meth : Method} {c : Code} {Q : State → Prop} {A : Nat → Prop} {nL cells slots : Nat} {B : Heap → Prop} {pc pc' : Nat} {lv : List (Nat × Value)} {st : List Value} {cc : ByteArray} {own : String} {ret : Option FieldType}
theorem G_sub {lv' : List (Nat × Value)} (ks : List Nat) (hl : lv_pick lv ks = lv') (kk : GG p l e R s m args below meth c Q A nL cells slots B pc lv' st) : GG p l e R s m args below meth c Q A nL cells slots B pc lv st := fun H locs ls h hB hS => kk H locs ls (lv_sub h ks hl) hB hS
theorem G_world {B' : Heap → Prop} (h : ∀ H, B H → B' H) (kk : GG p l e R s m args below meth c Q A nL cells slots B' pc lv st) : GG p l e R s m args below meth c Q A nL cells slots B pc lv st := fun H locs ls hl hB hS => kk H locs ls hl (h H hB) hS
theorem G_widen {k n : Nat} (h1 : cells ≤ k) (h2 : slots ≤ n) (kk : GG p l e R s m args below meth c Q A nL k n B pc lv st) : GG p l e R s m args below meth c Q A nL cells slots B pc lv st := fun H locs ls hl hB hS => W.widen h1 h2 (kk H locs ls hl hB hS)
theorem G_iconst {n : Int} {v : Int32} (C : Cx κ p s m args meth c cc nL own ret) (hd : decode cc pc = .ok (.iconst n, 1)) (hv : Int32.ofInt n = v) (hp : pc + 1 = pc') (kk : GG p l e R s m args below meth c Q A nL cells slots B pc' lv (.int v :: st)) : GG p l e R s m args below meth c Q A nL cells slots B pc lv st := by
  subst hp
  exact fun H locs ls hl hB hS => lv_iconst C.1 C.2.1 hd hv (kk H locs ls hl hB hS)
theorem G_bipush {n : Int} {v : Int32} (C : Cx κ p s m args meth c cc nL own ret) (hd : decode cc pc = .ok (.bipush n, 2)) (hv : (Int8.ofInt n).toInt32 = v) (hp : pc + 2 = pc') (kk : GG p l e R s m args below meth c Q A nL cells slots B pc' lv (.int v :: st)) : GG p l e R s m args below meth c Q A nL cells slots B pc lv st := by
  subst hp
  exact fun H locs ls hl hB hS => lv_bipush C.1 C.2.1 hd hv (kk H locs ls hl hB hS)
theorem G_sipush {n : Int} {v : Int32} (C : Cx κ p s m args meth c cc nL own ret) (hd : decode cc pc = .ok (.sipush n, 3)) (hv : (Int16.ofInt n).toInt32 = v) (hp : pc + 3 = pc') (kk : GG p l e R s m args below meth c Q A nL cells slots B pc' lv (.int v :: st)) : GG p l e R s m args below meth c Q A nL cells slots B pc lv st := by
  subst hp
  exact fun H locs ls hl hB hS => lv_sipush C.1 C.2.1 hd hv (kk H locs ls hl hB hS)
theorem G_lconst {n : Fin 2} {v : Int64} (C : Cx κ p s m args meth c cc nL own ret) (hd : decode cc pc = .ok (.lconst n, 1)) (hv : Int64.ofNat (n : Nat) = v) (hp : pc + 1 = pc') (kk : GG p l e R s m args below meth c Q A nL cells slots B pc' lv (.long v :: st)) : GG p l e R s m args below meth c Q A nL cells slots B pc lv st := by
  subst hp
  exact fun H locs ls hl hB hS => lv_lconst C.1 C.2.1 hd hv (kk H locs ls hl hB hS)
theorem G_null (C : Cx κ p s m args meth c cc nL own ret) (hd : decode cc pc = .ok (.aconst_null, 1)) (hp : pc + 1 = pc') (kk : GG p l e R s m args below meth c Q A nL cells slots B pc' lv (.null :: st)) : GG p l e R s m args below meth c Q A nL cells slots B pc lv st := by
  subst hp
  exact fun H locs ls hl hB hS => lv_null C.1 C.2.1 hd (kk H locs ls hl hB hS)
theorem G_ldc {index : Nat} {v : Int32} (C : Cx κ p s m args meth c cc nL own ret) (hd : decode cc pc = .ok (.ldc index, 2)) (hw : Cond.constant own index v ∈ gw) (hp : pc + 2 = pc') (kk : GG p l e R s m args below meth c Q A nL cells slots B pc' lv (.int v :: st)) : GG p l e R s m args below meth c Q A nL cells slots B pc lv st := by
  subst hp
  exact fun H locs ls hl hB hS => lv_ldc C.1 C.2.1 C.2.2.2.1 (C.2.2.2.2.1 _ hw) hd (kk H locs ls hl hB hS)
theorem G_ldcw {index : Nat} {v : Int32} (C : Cx κ p s m args meth c cc nL own ret) (hd : decode cc pc = .ok (.ldc_w index, 3)) (hw : Cond.constant own index v ∈ gw) (hp : pc + 3 = pc') (kk : GG p l e R s m args below meth c Q A nL cells slots B pc' lv (.int v :: st)) : GG p l e R s m args below meth c Q A nL cells slots B pc lv st := by
  subst hp
  exact fun H locs ls hl hB hS => lv_ldcw C.1 C.2.1 C.2.2.2.1 (C.2.2.2.2.1 _ hw) hd (kk H locs ls hl hB hS)
theorem G_ldc2 {index : Nat} {v : Int64} (C : Cx κ p s m args meth c cc nL own ret) (hd : decode cc pc = .ok (.ldc2_w index, 3)) (hw : Cond.constantLong own index v ∈ gw) (hp : pc + 3 = pc') (kk : GG p l e R s m args below meth c Q A nL cells slots B pc' lv (.long v :: st)) : GG p l e R s m args below meth c Q A nL cells slots B pc lv st := by
  subst hp
  exact fun H locs ls hl hB hS => lv_ldc2 C.1 C.2.1 C.2.2.2.1 (C.2.2.2.2.1 _ hw) hd (kk H locs ls hl hB hS)
theorem G_iload_n {k : Fin 4} {x : Int32} (C : Cx κ p s m args meth c cc nL own ret) (hd : decode cc pc = .ok (.iload_n k, 1)) (j : Nat) (hj : lv[j]? = some ((k : Nat), .int x)) (hp : pc + 1 = pc') (kk : GG p l e R s m args below meth c Q A nL cells slots B pc' lv (.int x :: st)) : GG p l e R s m args below meth c Q A nL cells slots B pc lv st := by
  subst hp
  exact fun H locs ls hl hB hS => lv_iload_n C.1 C.2.1 hd rfl (lv_at hl j hj) (kk H locs ls hl hB hS)
theorem G_iload {i : Nat} {x : Int32} (C : Cx κ p s m args meth c cc nL own ret) (hd : decode cc pc = .ok (.iload i, 2)) (j : Nat) (hj : lv[j]? = some (i, .int x)) (hp : pc + 2 = pc') (kk : GG p l e R s m args below meth c Q A nL cells slots B pc' lv (.int x :: st)) : GG p l e R s m args below meth c Q A nL cells slots B pc lv st := by
  subst hp
  exact fun H locs ls hl hB hS => lv_iload C.1 C.2.1 hd (lv_at hl j hj) (kk H locs ls hl hB hS)
theorem G_istore_n {k : Fin 4} {x : Int32} (C : Cx κ p s m args meth c cc nL own ret) (hd : decode cc pc = .ok (.istore_n k, 1)) (lv' : List (Nat × Value)) (hn : (k : Nat) < nL) (hl' : ((k : Nat), Value.int x) :: lv.filter (fun q => !(q.1 == (k : Nat)) && !(q.1 + 1 == (k : Nat) && q.2.category == 2)) = lv') (hp : pc + 1 = pc') (kk : GG p l e R s m args below meth c Q A nL cells slots B pc' lv' st) : GG p l e R s m args below meth c Q A nL cells slots B pc lv (.int x :: st) := by
  subst hp
  exact fun H locs ls hl hB hS => lv_istore_n C.1 C.2.1 hd rfl hl hn hl' (fun ls' h' => kk H locs ls' h' hB hS)
theorem G_istore {i : Nat} {x : Int32} (C : Cx κ p s m args meth c cc nL own ret) (hd : decode cc pc = .ok (.istore i, 2)) (lv' : List (Nat × Value)) (hn : i < nL) (hl' : (i, Value.int x) :: lv.filter (fun q => !(q.1 == i) && !(q.1 + 1 == i && q.2.category == 2)) = lv') (hp : pc + 2 = pc') (kk : GG p l e R s m args below meth c Q A nL cells slots B pc' lv' st) : GG p l e R s m args below meth c Q A nL cells slots B pc lv (.int x :: st) := by
  subst hp
  exact fun H locs ls hl hB hS => lv_istore C.1 C.2.1 hd hl hn hl' (fun ls' h' => kk H locs ls' h' hB hS)
theorem G_lload_n {k : Fin 4} {x : Int64} (C : Cx κ p s m args meth c cc nL own ret) (hd : decode cc pc = .ok (.lload_n k, 1)) (j : Nat) (hj : lv[j]? = some ((k : Nat), .long x)) (hp : pc + 1 = pc') (kk : GG p l e R s m args below meth c Q A nL cells slots B pc' lv (.long x :: st)) : GG p l e R s m args below meth c Q A nL cells slots B pc lv st := by
  subst hp
  exact fun H locs ls hl hB hS => lv_lload_n C.1 C.2.1 hd rfl (lv_at hl j hj) (kk H locs ls hl hB hS)
theorem G_lload {i : Nat} {x : Int64} (C : Cx κ p s m args meth c cc nL own ret) (hd : decode cc pc = .ok (.lload i, 2)) (j : Nat) (hj : lv[j]? = some (i, .long x)) (hp : pc + 2 = pc') (kk : GG p l e R s m args below meth c Q A nL cells slots B pc' lv (.long x :: st)) : GG p l e R s m args below meth c Q A nL cells slots B pc lv st := by
  subst hp
  exact fun H locs ls hl hB hS => lv_lload C.1 C.2.1 hd (lv_at hl j hj) (kk H locs ls hl hB hS)
theorem G_lstore_n {k : Fin 4} {x : Int64} (C : Cx κ p s m args meth c cc nL own ret) (hd : decode cc pc = .ok (.lstore_n k, 1)) (lv' : List (Nat × Value)) (hn : (k : Nat) + 1 < nL) (hl' : ((k : Nat), Value.long x) :: lv.filter (fun q => !(q.1 == (k : Nat)) && (!(q.1 == (k : Nat) + 1) && !(q.1 + 1 == (k : Nat) && q.2.category == 2))) = lv') (hp : pc + 1 = pc') (kk : GG p l e R s m args below meth c Q A nL cells slots B pc' lv' st) : GG p l e R s m args below meth c Q A nL cells slots B pc lv (.long x :: st) := by
  subst hp
  exact fun H locs ls hl hB hS => lv_lstore_n C.1 C.2.1 hd rfl hl hn hl' (fun ls' h' => kk H locs ls' h' hB hS)
theorem G_lstore {i : Nat} {x : Int64} (C : Cx κ p s m args meth c cc nL own ret) (hd : decode cc pc = .ok (.lstore i, 2)) (lv' : List (Nat × Value)) (hn : i + 1 < nL) (hl' : (i, Value.long x) :: lv.filter (fun q => !(q.1 == i) && (!(q.1 == i + 1) && !(q.1 + 1 == i && q.2.category == 2))) = lv') (hp : pc + 2 = pc') (kk : GG p l e R s m args below meth c Q A nL cells slots B pc' lv' st) : GG p l e R s m args below meth c Q A nL cells slots B pc lv (.long x :: st) := by
  subst hp
  exact fun H locs ls hl hB hS => lv_lstore C.1 C.2.1 hd hl hn hl' (fun ls' h' => kk H locs ls' h' hB hS)
theorem G_aload_n {k : Fin 4} {x : Nat} (C : Cx κ p s m args meth c cc nL own ret) (hd : decode cc pc = .ok (.aload_n k, 1)) (j : Nat) (hj : lv[j]? = some ((k : Nat), .ref x)) (hp : pc + 1 = pc') (kk : GG p l e R s m args below meth c Q A nL cells slots B pc' lv (.ref x :: st)) : GG p l e R s m args below meth c Q A nL cells slots B pc lv st := by
  subst hp
  exact fun H locs ls hl hB hS => lv_aload_n C.1 C.2.1 hd rfl (lv_at hl j hj) (kk H locs ls hl hB hS)
theorem G_aload {i : Nat} {x : Nat} (C : Cx κ p s m args meth c cc nL own ret) (hd : decode cc pc = .ok (.aload i, 2)) (j : Nat) (hj : lv[j]? = some (i, .ref x)) (hp : pc + 2 = pc') (kk : GG p l e R s m args below meth c Q A nL cells slots B pc' lv (.ref x :: st)) : GG p l e R s m args below meth c Q A nL cells slots B pc lv st := by
  subst hp
  exact fun H locs ls hl hB hS => lv_aload C.1 C.2.1 hd (lv_at hl j hj) (kk H locs ls hl hB hS)
theorem G_astore_n {k : Fin 4} {x : Nat} (C : Cx κ p s m args meth c cc nL own ret) (hd : decode cc pc = .ok (.astore_n k, 1)) (lv' : List (Nat × Value)) (hn : (k : Nat) < nL) (hl' : ((k : Nat), Value.ref x) :: lv.filter (fun q => !(q.1 == (k : Nat)) && !(q.1 + 1 == (k : Nat) && q.2.category == 2)) = lv') (hp : pc + 1 = pc') (kk : GG p l e R s m args below meth c Q A nL cells slots B pc' lv' st) : GG p l e R s m args below meth c Q A nL cells slots B pc lv (.ref x :: st) := by
  subst hp
  exact fun H locs ls hl hB hS => lv_astore_n C.1 C.2.1 hd rfl hl hn hl' (fun ls' h' => kk H locs ls' h' hB hS)
theorem G_astore {i : Nat} {x : Nat} (C : Cx κ p s m args meth c cc nL own ret) (hd : decode cc pc = .ok (.astore i, 2)) (lv' : List (Nat × Value)) (hn : i < nL) (hl' : (i, Value.ref x) :: lv.filter (fun q => !(q.1 == i) && !(q.1 + 1 == i && q.2.category == 2)) = lv') (hp : pc + 2 = pc') (kk : GG p l e R s m args below meth c Q A nL cells slots B pc' lv' st) : GG p l e R s m args below meth c Q A nL cells slots B pc lv (.ref x :: st) := by
  subst hp
  exact fun H locs ls hl hB hS => lv_astore C.1 C.2.1 hd hl hn hl' (fun ls' h' => kk H locs ls' h' hB hS)
theorem G_qload_n {k : Fin 4} {r : Option Nat} (C : Cx κ p s m args meth c cc nL own ret) (hd : decode cc pc = .ok (.aload_n k, 1)) (j : Nat) (hj : lv[j]? = some ((k : Nat), va_rf r)) (hp : pc + 1 = pc') (kk : GG p l e R s m args below meth c Q A nL cells slots B pc' lv (va_rf r :: st)) : GG p l e R s m args below meth c Q A nL cells slots B pc lv st := by
  cases r with
  | none => subst hp; exact fun H locs ls hl hB hS => lv_aload_nN C.1 C.2.1 hd rfl (lv_at hl j hj) (kk H locs ls hl hB hS)
  | some x => exact G_aload_n C hd j hj hp kk
theorem G_qload {i : Nat} {r : Option Nat} (C : Cx κ p s m args meth c cc nL own ret) (hd : decode cc pc = .ok (.aload i, 2)) (j : Nat) (hj : lv[j]? = some (i, va_rf r)) (hp : pc + 2 = pc') (kk : GG p l e R s m args below meth c Q A nL cells slots B pc' lv (va_rf r :: st)) : GG p l e R s m args below meth c Q A nL cells slots B pc lv st := by
  cases r with
  | none => subst hp; exact fun H locs ls hl hB hS => lv_aloadN C.1 C.2.1 hd (lv_at hl j hj) (kk H locs ls hl hB hS)
  | some x => exact G_aload C hd j hj hp kk
theorem G_qstore_n {k : Fin 4} {r : Option Nat} (C : Cx κ p s m args meth c cc nL own ret) (hd : decode cc pc = .ok (.astore_n k, 1)) (lv' : List (Nat × Value)) (hn : (k : Nat) < nL) (hl' : ((k : Nat), va_rf r) :: lv.filter (fun q => !(q.1 == (k : Nat)) && !(q.1 + 1 == (k : Nat) && q.2.category == 2)) = lv') (hp : pc + 1 = pc') (kk : GG p l e R s m args below meth c Q A nL cells slots B pc' lv' st) : GG p l e R s m args below meth c Q A nL cells slots B pc lv (va_rf r :: st) := by
  cases r with
  | none => subst hp; exact fun H locs ls hl hB hS => lv_astore_nN C.1 C.2.1 hd rfl hl hn hl' (fun ls' h' => kk H locs ls' h' hB hS)
  | some x => exact G_astore_n C hd lv' hn hl' hp kk
theorem G_qstore {i : Nat} {r : Option Nat} (C : Cx κ p s m args meth c cc nL own ret) (hd : decode cc pc = .ok (.astore i, 2)) (lv' : List (Nat × Value)) (hn : i < nL) (hl' : (i, va_rf r) :: lv.filter (fun q => !(q.1 == i) && !(q.1 + 1 == i && q.2.category == 2)) = lv') (hp : pc + 2 = pc') (kk : GG p l e R s m args below meth c Q A nL cells slots B pc' lv' st) : GG p l e R s m args below meth c Q A nL cells slots B pc lv (va_rf r :: st) := by
  cases r with
  | none => subst hp; exact fun H locs ls hl hB hS => lv_astoreN C.1 C.2.1 hd hl hn hl' (fun ls' h' => kk H locs ls' h' hB hS)
  | some x => exact G_astore C hd lv' hn hl' hp kk
theorem G_iinc {i : Nat} {n : Int} {x v : Int32} (C : Cx κ p s m args meth c cc nL own ret) (hd : decode cc pc = .ok (.iinc i n, 3)) (j : Nat) (hj : lv[j]? = some (i, .int x)) (hv : x + Int32.ofInt n = v) (lv' : List (Nat × Value)) (hn : i < nL) (hl' : (i, Value.int v) :: lv.filter (fun q => !(q.1 == i) && !(q.1 + 1 == i && q.2.category == 2)) = lv') (hp : pc + 3 = pc') (kk : GG p l e R s m args below meth c Q A nL cells slots B pc' lv' st) : GG p l e R s m args below meth c Q A nL cells slots B pc lv st := by
  subst hp
  exact fun H locs ls hl hB hS => lv_iinc C.1 C.2.1 hd hl hj hv hn hl' (fun ls' h' => kk H locs ls' h' hB hS)
theorem G_iadd {x y : Int32} (C : Cx κ p s m args meth c cc nL own ret) (hd : decode cc pc = .ok (.iadd, 1)) (hp : pc + 1 = pc') (kk : GG p l e R s m args below meth c Q A nL cells slots B pc' lv (.int (x + y) :: st)) : GG p l e R s m args below meth c Q A nL cells slots B pc lv (.int y :: .int x :: st) := by
  subst hp
  exact fun H locs ls hl hB hS => lv_iadd C.1 C.2.1 hd (kk H locs ls hl hB hS)
theorem G_isub {x y : Int32} (C : Cx κ p s m args meth c cc nL own ret) (hd : decode cc pc = .ok (.isub, 1)) (hp : pc + 1 = pc') (kk : GG p l e R s m args below meth c Q A nL cells slots B pc' lv (.int (x - y) :: st)) : GG p l e R s m args below meth c Q A nL cells slots B pc lv (.int y :: .int x :: st) := by
  subst hp
  exact fun H locs ls hl hB hS => lv_isub C.1 C.2.1 hd (kk H locs ls hl hB hS)
theorem G_imul {x y : Int32} (C : Cx κ p s m args meth c cc nL own ret) (hd : decode cc pc = .ok (.imul, 1)) (hp : pc + 1 = pc') (kk : GG p l e R s m args below meth c Q A nL cells slots B pc' lv (.int (x * y) :: st)) : GG p l e R s m args below meth c Q A nL cells slots B pc lv (.int y :: .int x :: st) := by
  subst hp
  exact fun H locs ls hl hB hS => lv_imul C.1 C.2.1 hd (kk H locs ls hl hB hS)
theorem G_iand {x y : Int32} (C : Cx κ p s m args meth c cc nL own ret) (hd : decode cc pc = .ok (.iand, 1)) (hp : pc + 1 = pc') (kk : GG p l e R s m args below meth c Q A nL cells slots B pc' lv (.int (x &&& y) :: st)) : GG p l e R s m args below meth c Q A nL cells slots B pc lv (.int y :: .int x :: st) := by
  subst hp
  exact fun H locs ls hl hB hS => lv_iand C.1 C.2.1 hd (kk H locs ls hl hB hS)
theorem G_ior {x y : Int32} (C : Cx κ p s m args meth c cc nL own ret) (hd : decode cc pc = .ok (.ior, 1)) (hp : pc + 1 = pc') (kk : GG p l e R s m args below meth c Q A nL cells slots B pc' lv (.int (x ||| y) :: st)) : GG p l e R s m args below meth c Q A nL cells slots B pc lv (.int y :: .int x :: st) := by
  subst hp
  exact fun H locs ls hl hB hS => lv_ior C.1 C.2.1 hd (kk H locs ls hl hB hS)
theorem G_ixor {x y : Int32} (C : Cx κ p s m args meth c cc nL own ret) (hd : decode cc pc = .ok (.ixor, 1)) (hp : pc + 1 = pc') (kk : GG p l e R s m args below meth c Q A nL cells slots B pc' lv (.int (x ^^^ y) :: st)) : GG p l e R s m args below meth c Q A nL cells slots B pc lv (.int y :: .int x :: st) := by
  subst hp
  exact fun H locs ls hl hB hS => lv_ixor C.1 C.2.1 hd (kk H locs ls hl hB hS)
theorem G_ishl {x y : Int32} (C : Cx κ p s m args meth c cc nL own ret) (hd : decode cc pc = .ok (.ishl, 1)) (hp : pc + 1 = pc') (kk : GG p l e R s m args below meth c Q A nL cells slots B pc' lv (.int (x <<< (y &&& 31)) :: st)) : GG p l e R s m args below meth c Q A nL cells slots B pc lv (.int y :: .int x :: st) := by
  subst hp
  exact fun H locs ls hl hB hS => lv_ishl C.1 C.2.1 hd (kk H locs ls hl hB hS)
theorem G_ishr {x y : Int32} (C : Cx κ p s m args meth c cc nL own ret) (hd : decode cc pc = .ok (.ishr, 1)) (hp : pc + 1 = pc') (kk : GG p l e R s m args below meth c Q A nL cells slots B pc' lv (.int (x >>> (y &&& 31)) :: st)) : GG p l e R s m args below meth c Q A nL cells slots B pc lv (.int y :: .int x :: st) := by
  subst hp
  exact fun H locs ls hl hB hS => lv_ishr C.1 C.2.1 hd (kk H locs ls hl hB hS)
theorem G_iushr {x y : Int32} (C : Cx κ p s m args meth c cc nL own ret) (hd : decode cc pc = .ok (.iushr, 1)) (hp : pc + 1 = pc') (kk : GG p l e R s m args below meth c Q A nL cells slots B pc' lv (.int ((x.toUInt32 >>> (y.toUInt32 &&& Int32.toUInt32 31)).toInt32) :: st)) : GG p l e R s m args below meth c Q A nL cells slots B pc lv (.int y :: .int x :: st) := by
  subst hp
  exact fun H locs ls hl hB hS => lv_iushr C.1 C.2.1 hd rfl (kk H locs ls hl hB hS)
theorem G_idiv {x y : Int32} (C : Cx κ p s m args meth c cc nL own ret) (hd : decode cc pc = .ok (.idiv, 1)) (hne : ¬ y = 0) (hp : pc + 1 = pc') (kk : GG p l e R s m args below meth c Q A nL cells slots B pc' lv (.int (x / y) :: st)) : GG p l e R s m args below meth c Q A nL cells slots B pc lv (.int y :: .int x :: st) := by
  subst hp
  exact fun H locs ls hl hB hS => lv_idiv C.1 C.2.1 hd hne (kk H locs ls hl hB hS)
theorem G_irem {x y : Int32} (C : Cx κ p s m args meth c cc nL own ret) (hd : decode cc pc = .ok (.irem, 1)) (hne : ¬ y = 0) (hp : pc + 1 = pc') (kk : GG p l e R s m args below meth c Q A nL cells slots B pc' lv (.int (x - x / y * y) :: st)) : GG p l e R s m args below meth c Q A nL cells slots B pc lv (.int y :: .int x :: st) := by
  subst hp
  exact fun H locs ls hl hB hS => lv_irem C.1 C.2.1 hd hne (kk H locs ls hl hB hS)
theorem G_ineg {x : Int32} (C : Cx κ p s m args meth c cc nL own ret) (hd : decode cc pc = .ok (.ineg, 1)) (hp : pc + 1 = pc') (kk : GG p l e R s m args below meth c Q A nL cells slots B pc' lv (.int (-x) :: st)) : GG p l e R s m args below meth c Q A nL cells slots B pc lv (.int x :: st) := by
  subst hp
  exact fun H locs ls hl hB hS => lv_ineg C.1 C.2.1 hd (kk H locs ls hl hB hS)
theorem G_i2l {x : Int32} (C : Cx κ p s m args meth c cc nL own ret) (hd : decode cc pc = .ok (.i2l, 1)) (hp : pc + 1 = pc') (kk : GG p l e R s m args below meth c Q A nL cells slots B pc' lv (.long x.toInt64 :: st)) : GG p l e R s m args below meth c Q A nL cells slots B pc lv (.int x :: st) := by
  subst hp
  exact fun H locs ls hl hB hS => lv_i2l C.1 C.2.1 hd rfl (kk H locs ls hl hB hS)
theorem G_l2i {x : Int64} (C : Cx κ p s m args meth c cc nL own ret) (hd : decode cc pc = .ok (.l2i, 1)) (hp : pc + 1 = pc') (kk : GG p l e R s m args below meth c Q A nL cells slots B pc' lv (.int x.toInt32 :: st)) : GG p l e R s m args below meth c Q A nL cells slots B pc lv (.long x :: st) := by
  subst hp
  exact fun H locs ls hl hB hS => lv_l2i C.1 C.2.1 hd rfl (kk H locs ls hl hB hS)
theorem G_i2b {x : Int32} (C : Cx κ p s m args meth c cc nL own ret) (hd : decode cc pc = .ok (.i2b, 1)) (hp : pc + 1 = pc') (kk : GG p l e R s m args below meth c Q A nL cells slots B pc' lv (.int x.toInt8.toInt32 :: st)) : GG p l e R s m args below meth c Q A nL cells slots B pc lv (.int x :: st) := by
  subst hp
  exact fun H locs ls hl hB hS => lv_i2b C.1 C.2.1 hd rfl (kk H locs ls hl hB hS)
theorem G_i2s {x : Int32} (C : Cx κ p s m args meth c cc nL own ret) (hd : decode cc pc = .ok (.i2s, 1)) (hp : pc + 1 = pc') (kk : GG p l e R s m args below meth c Q A nL cells slots B pc' lv (.int x.toInt16.toInt32 :: st)) : GG p l e R s m args below meth c Q A nL cells slots B pc lv (.int x :: st) := by
  subst hp
  exact fun H locs ls hl hB hS => lv_i2s C.1 C.2.1 hd rfl (kk H locs ls hl hB hS)
theorem G_lor {x y : Int64} (C : Cx κ p s m args meth c cc nL own ret) (hd : decode cc pc = .ok (.lor, 1)) (hp : pc + 1 = pc') (kk : GG p l e R s m args below meth c Q A nL cells slots B pc' lv (.long (x ||| y) :: st)) : GG p l e R s m args below meth c Q A nL cells slots B pc lv (.long y :: .long x :: st) := by
  subst hp
  exact fun H locs ls hl hB hS => lv_lor C.1 C.2.1 hd (kk H locs ls hl hB hS)
theorem G_land {x y : Int64} (C : Cx κ p s m args meth c cc nL own ret) (hd : decode cc pc = .ok (.land, 1)) (hp : pc + 1 = pc') (kk : GG p l e R s m args below meth c Q A nL cells slots B pc' lv (.long (x &&& y) :: st)) : GG p l e R s m args below meth c Q A nL cells slots B pc lv (.long y :: .long x :: st) := by
  subst hp
  exact fun H locs ls hl hB hS => lv_land C.1 C.2.1 hd (kk H locs ls hl hB hS)
theorem G_lshl {x : Int64} {y : Int32} (C : Cx κ p s m args meth c cc nL own ret) (hd : decode cc pc = .ok (.lshl, 1)) (hp : pc + 1 = pc') (kk : GG p l e R s m args below meth c Q A nL cells slots B pc' lv (.long (x <<< (y.toInt64 &&& 63)) :: st)) : GG p l e R s m args below meth c Q A nL cells slots B pc lv (.int y :: .long x :: st) := by
  subst hp
  exact fun H locs ls hl hB hS => lv_lshl C.1 C.2.1 hd rfl (kk H locs ls hl hB hS)
theorem G_lcmp {x y : Int64} (C : Cx κ p s m args meth c cc nL own ret) (hd : decode cc pc = .ok (.lcmp, 1)) (hp : pc + 1 = pc') (kk : GG p l e R s m args below meth c Q A nL cells slots B pc' lv (.int (lg_cmp x y) :: st)) : GG p l e R s m args below meth c Q A nL cells slots B pc lv (.long y :: .long x :: st) := by
  subst hp
  exact fun H locs ls hl hB hS => W.lcmp C.1 C.2.1 hd (kk H locs ls hl hB hS)
theorem G_dup {v : Value} (C : Cx κ p s m args meth c cc nL own ret) (hd : decode cc pc = .ok (.dup, 1)) (hv : v.category = 1) (hp : pc + 1 = pc') (kk : GG p l e R s m args below meth c Q A nL cells slots B pc' lv (v :: v :: st)) : GG p l e R s m args below meth c Q A nL cells slots B pc lv (v :: st) := by
  subst hp
  exact fun H locs ls hl hB hS => lv_dup C.1 C.2.1 hd hv (kk H locs ls hl hB hS)
theorem G_dup2 {v w : Value} (C : Cx κ p s m args meth c cc nL own ret) (hd : decode cc pc = .ok (.dup2, 1)) (hv : v.category = 1) (hw : w.category = 1) (hp : pc + 1 = pc') (kk : GG p l e R s m args below meth c Q A nL cells slots B pc' lv (v :: w :: v :: w :: st)) : GG p l e R s m args below meth c Q A nL cells slots B pc lv (v :: w :: st) := by
  subst hp
  exact fun H locs ls hl hB hS => lv_dup2_11 C.1 C.2.1 hd hv hw (kk H locs ls hl hB hS)
theorem G_if_eq {x : Int32} {off : Int} {tgt : Nat} (C : Cx κ p s m args meth c cc nL own ret) (hd : decode cc pc = .ok (.ifCond .eq off, 3)) (ht : (pc : Int) + off = (tgt : Int)) (hp : pc + 3 = pc') (kt : x = 0 → GG p l e R s m args below meth c Q A nL cells slots B tgt lv st) (kf : ¬ x = 0 → GG p l e R s m args below meth c Q A nL cells slots B pc' lv st) : GG p l e R s m args below meth c Q A nL cells slots B pc lv (.int x :: st) := by
  subst hp
  exact fun H locs ls hl hB hS => lv_if_eq C.1 C.2.1 hd ht (fun h => kt h H locs ls hl hB hS) (fun h => kf h H locs ls hl hB hS)
theorem G_icmp_eq {x y : Int32} {off : Int} {tgt : Nat} (C : Cx κ p s m args meth c cc nL own ret) (hd : decode cc pc = .ok (.if_icmp .eq off, 3)) (ht : (pc : Int) + off = (tgt : Int)) (hp : pc + 3 = pc') (kt : x = y → GG p l e R s m args below meth c Q A nL cells slots B tgt lv st) (kf : ¬ x = y → GG p l e R s m args below meth c Q A nL cells slots B pc' lv st) : GG p l e R s m args below meth c Q A nL cells slots B pc lv (.int y :: .int x :: st) := by
  subst hp
  exact fun H locs ls hl hB hS => lv_icmp_eq C.1 C.2.1 hd ht (fun h => kt h H locs ls hl hB hS) (fun h => kf h H locs ls hl hB hS)
theorem G_if_ne {x : Int32} {off : Int} {tgt : Nat} (C : Cx κ p s m args meth c cc nL own ret) (hd : decode cc pc = .ok (.ifCond .ne off, 3)) (ht : (pc : Int) + off = (tgt : Int)) (hp : pc + 3 = pc') (kt : ¬ x = 0 → GG p l e R s m args below meth c Q A nL cells slots B tgt lv st) (kf : x = 0 → GG p l e R s m args below meth c Q A nL cells slots B pc' lv st) : GG p l e R s m args below meth c Q A nL cells slots B pc lv (.int x :: st) := by
  subst hp
  exact fun H locs ls hl hB hS => lv_if_ne C.1 C.2.1 hd ht (fun h => kt h H locs ls hl hB hS) (fun h => kf h H locs ls hl hB hS)
theorem G_icmp_ne {x y : Int32} {off : Int} {tgt : Nat} (C : Cx κ p s m args meth c cc nL own ret) (hd : decode cc pc = .ok (.if_icmp .ne off, 3)) (ht : (pc : Int) + off = (tgt : Int)) (hp : pc + 3 = pc') (kt : ¬ x = y → GG p l e R s m args below meth c Q A nL cells slots B tgt lv st) (kf : x = y → GG p l e R s m args below meth c Q A nL cells slots B pc' lv st) : GG p l e R s m args below meth c Q A nL cells slots B pc lv (.int y :: .int x :: st) := by
  subst hp
  exact fun H locs ls hl hB hS => lv_icmp_ne C.1 C.2.1 hd ht (fun h => kt h H locs ls hl hB hS) (fun h => kf h H locs ls hl hB hS)
theorem G_if_lt {x : Int32} {off : Int} {tgt : Nat} (C : Cx κ p s m args meth c cc nL own ret) (hd : decode cc pc = .ok (.ifCond .lt off, 3)) (ht : (pc : Int) + off = (tgt : Int)) (hp : pc + 3 = pc') (kt : x < 0 → GG p l e R s m args below meth c Q A nL cells slots B tgt lv st) (kf : ¬ x < 0 → GG p l e R s m args below meth c Q A nL cells slots B pc' lv st) : GG p l e R s m args below meth c Q A nL cells slots B pc lv (.int x :: st) := by
  subst hp
  exact fun H locs ls hl hB hS => lv_if_lt C.1 C.2.1 hd ht (fun h => kt h H locs ls hl hB hS) (fun h => kf h H locs ls hl hB hS)
theorem G_icmp_lt {x y : Int32} {off : Int} {tgt : Nat} (C : Cx κ p s m args meth c cc nL own ret) (hd : decode cc pc = .ok (.if_icmp .lt off, 3)) (ht : (pc : Int) + off = (tgt : Int)) (hp : pc + 3 = pc') (kt : x < y → GG p l e R s m args below meth c Q A nL cells slots B tgt lv st) (kf : ¬ x < y → GG p l e R s m args below meth c Q A nL cells slots B pc' lv st) : GG p l e R s m args below meth c Q A nL cells slots B pc lv (.int y :: .int x :: st) := by
  subst hp
  exact fun H locs ls hl hB hS => lv_icmp_lt C.1 C.2.1 hd ht (fun h => kt h H locs ls hl hB hS) (fun h => kf h H locs ls hl hB hS)
theorem G_if_ge {x : Int32} {off : Int} {tgt : Nat} (C : Cx κ p s m args meth c cc nL own ret) (hd : decode cc pc = .ok (.ifCond .ge off, 3)) (ht : (pc : Int) + off = (tgt : Int)) (hp : pc + 3 = pc') (kt : 0 ≤ x → GG p l e R s m args below meth c Q A nL cells slots B tgt lv st) (kf : ¬ 0 ≤ x → GG p l e R s m args below meth c Q A nL cells slots B pc' lv st) : GG p l e R s m args below meth c Q A nL cells slots B pc lv (.int x :: st) := by
  subst hp
  exact fun H locs ls hl hB hS => lv_if_ge C.1 C.2.1 hd ht (fun h => kt h H locs ls hl hB hS) (fun h => kf h H locs ls hl hB hS)
theorem G_icmp_ge {x y : Int32} {off : Int} {tgt : Nat} (C : Cx κ p s m args meth c cc nL own ret) (hd : decode cc pc = .ok (.if_icmp .ge off, 3)) (ht : (pc : Int) + off = (tgt : Int)) (hp : pc + 3 = pc') (kt : y ≤ x → GG p l e R s m args below meth c Q A nL cells slots B tgt lv st) (kf : ¬ y ≤ x → GG p l e R s m args below meth c Q A nL cells slots B pc' lv st) : GG p l e R s m args below meth c Q A nL cells slots B pc lv (.int y :: .int x :: st) := by
  subst hp
  exact fun H locs ls hl hB hS => lv_icmp_ge C.1 C.2.1 hd ht (fun h => kt h H locs ls hl hB hS) (fun h => kf h H locs ls hl hB hS)
theorem G_if_gt {x : Int32} {off : Int} {tgt : Nat} (C : Cx κ p s m args meth c cc nL own ret) (hd : decode cc pc = .ok (.ifCond .gt off, 3)) (ht : (pc : Int) + off = (tgt : Int)) (hp : pc + 3 = pc') (kt : 0 < x → GG p l e R s m args below meth c Q A nL cells slots B tgt lv st) (kf : ¬ 0 < x → GG p l e R s m args below meth c Q A nL cells slots B pc' lv st) : GG p l e R s m args below meth c Q A nL cells slots B pc lv (.int x :: st) := by
  subst hp
  exact fun H locs ls hl hB hS => lv_if_gt C.1 C.2.1 hd ht (fun h => kt h H locs ls hl hB hS) (fun h => kf h H locs ls hl hB hS)
theorem G_icmp_gt {x y : Int32} {off : Int} {tgt : Nat} (C : Cx κ p s m args meth c cc nL own ret) (hd : decode cc pc = .ok (.if_icmp .gt off, 3)) (ht : (pc : Int) + off = (tgt : Int)) (hp : pc + 3 = pc') (kt : y < x → GG p l e R s m args below meth c Q A nL cells slots B tgt lv st) (kf : ¬ y < x → GG p l e R s m args below meth c Q A nL cells slots B pc' lv st) : GG p l e R s m args below meth c Q A nL cells slots B pc lv (.int y :: .int x :: st) := by
  subst hp
  exact fun H locs ls hl hB hS => lv_icmp_gt C.1 C.2.1 hd ht (fun h => kt h H locs ls hl hB hS) (fun h => kf h H locs ls hl hB hS)
theorem G_if_le {x : Int32} {off : Int} {tgt : Nat} (C : Cx κ p s m args meth c cc nL own ret) (hd : decode cc pc = .ok (.ifCond .le off, 3)) (ht : (pc : Int) + off = (tgt : Int)) (hp : pc + 3 = pc') (kt : x ≤ 0 → GG p l e R s m args below meth c Q A nL cells slots B tgt lv st) (kf : ¬ x ≤ 0 → GG p l e R s m args below meth c Q A nL cells slots B pc' lv st) : GG p l e R s m args below meth c Q A nL cells slots B pc lv (.int x :: st) := by
  subst hp
  exact fun H locs ls hl hB hS => lv_if_le C.1 C.2.1 hd ht (fun h => kt h H locs ls hl hB hS) (fun h => kf h H locs ls hl hB hS)
theorem G_icmp_le {x y : Int32} {off : Int} {tgt : Nat} (C : Cx κ p s m args meth c cc nL own ret) (hd : decode cc pc = .ok (.if_icmp .le off, 3)) (ht : (pc : Int) + off = (tgt : Int)) (hp : pc + 3 = pc') (kt : x ≤ y → GG p l e R s m args below meth c Q A nL cells slots B tgt lv st) (kf : ¬ x ≤ y → GG p l e R s m args below meth c Q A nL cells slots B pc' lv st) : GG p l e R s m args below meth c Q A nL cells slots B pc lv (.int y :: .int x :: st) := by
  subst hp
  exact fun H locs ls hl hB hS => lv_icmp_le C.1 C.2.1 hd ht (fun h => kt h H locs ls hl hB hS) (fun h => kf h H locs ls hl hB hS)
theorem G_goto {off : Int} {tgt : Nat} (C : Cx κ p s m args meth c cc nL own ret) (hd : decode cc pc = .ok (.goto off, 3)) (ht : (pc : Int) + off = (tgt : Int)) (kk : GG p l e R s m args below meth c Q A nL cells slots B tgt lv st) : GG p l e R s m args below meth c Q A nL cells slots B pc lv st := fun H locs ls hl hB hS => lv_goto C.1 C.2.1 hd ht (kk H locs ls hl hB hS)
theorem G_ifnull {r : Option Nat} {off : Int} {tgt : Nat} (C : Cx κ p s m args meth c cc nL own ret) (hd : decode cc pc = .ok (.ifnull off, 3)) (ht : (pc : Int) + off = (tgt : Int)) (hp : pc + 3 = pc') (kt : r = none → GG p l e R s m args below meth c Q A nL cells slots B tgt lv st) (kf : ∀ x : Nat, r = some x → GG p l e R s m args below meth c Q A nL cells slots B pc' lv st) : GG p l e R s m args below meth c Q A nL cells slots B pc lv (va_rf r :: st) := by
  subst hp
  cases r with
  | none => exact fun H locs ls hl hB hS => lv_ifnullN C.1 C.2.1 hd ht (kt rfl H locs ls hl hB hS)
  | some x => exact fun H locs ls hl hB hS => lv_ifnull C.1 C.2.1 hd (kf x rfl H locs ls hl hB hS)
theorem G_ifnonnull {r : Option Nat} {off : Int} {tgt : Nat} (C : Cx κ p s m args meth c cc nL own ret) (hd : decode cc pc = .ok (.ifnonnull off, 3)) (ht : (pc : Int) + off = (tgt : Int)) (hp : pc + 3 = pc') (kt : ∀ x : Nat, r = some x → GG p l e R s m args below meth c Q A nL cells slots B tgt lv st) (kf : r = none → GG p l e R s m args below meth c Q A nL cells slots B pc' lv st) : GG p l e R s m args below meth c Q A nL cells slots B pc lv (va_rf r :: st) := by
  subst hp
  cases r with
  | none => exact fun H locs ls hl hB hS => lv_ifnonnullN C.1 C.2.1 hd (kf rfl H locs ls hl hB hS)
  | some x => exact fun H locs ls hl hB hS => lv_ifnonnull C.1 C.2.1 hd ht (kt x rfl H locs ls hl hB hS)
theorem G_acmp_ne {rx ry : Option Nat} {off : Int} {tgt : Nat} (C : Cx κ p s m args meth c cc nL own ret) (hd : decode cc pc = .ok (.if_acmp .ne off, 3)) (ht : (pc : Int) + off = (tgt : Int)) (hp : pc + 3 = pc') (kt : ¬ rx = ry → GG p l e R s m args below meth c Q A nL cells slots B tgt lv st) (kf : rx = ry → GG p l e R s m args below meth c Q A nL cells slots B pc' lv st) : GG p l e R s m args below meth c Q A nL cells slots B pc lv (va_rf ry :: va_rf rx :: st) := by
  subst hp
  exact fun H locs ls hl hB hS => lv_acmp_ne C.1 C.2.1 hd ht (fun h => kt h H locs ls hl hB hS) (fun h => kf h H locs ls hl hB hS)
theorem G_tabIn {dflt lo hi : Int} {offs : Array Int} {len : Nat} {x : Int32} {off : Int} {tgt : Nat} (C : Cx κ p s m args meth c cc nL own ret) (hd : decode cc pc = .ok (.tableswitch dflt lo hi offs, len)) (h1 : ¬ x.toInt < lo) (h2 : ¬ hi < x.toInt) (ho : offs[(x.toInt - lo).toNat]? = some off) (ht : (pc : Int) + off = (tgt : Int)) (kk : GG p l e R s m args below meth c Q A nL cells slots B tgt lv st) : GG p l e R s m args below meth c Q A nL cells slots B pc lv (.int x :: st) := fun H locs ls hl hB hS => lv_tableIn C.1 C.2.1 hd h1 h2 ho ht (kk H locs ls hl hB hS)
theorem G_tabOut {dflt lo hi : Int} {offs : Array Int} {len : Nat} {x : Int32} {tgt : Nat} (C : Cx κ p s m args meth c cc nL own ret) (hd : decode cc pc = .ok (.tableswitch dflt lo hi offs, len)) (h : x.toInt < lo ∨ hi < x.toInt) (ht : (pc : Int) + dflt = (tgt : Int)) (kk : GG p l e R s m args below meth c Q A nL cells slots B tgt lv st) : GG p l e R s m args below meth c Q A nL cells slots B pc lv (.int x :: st) := fun H locs ls hl hB hS => lv_tableOut C.1 C.2.1 hd h ht (kk H locs ls hl hB hS)
/-! fields -/
theorem rdv.P {a : Nat} {q : va_E} {H : Heap} (h : rdv κ B a q) (hB : B H) : va_P κ.1 vwCl [(a, q)] H := by
  intro k x hx
  have hz : k < 1 := (List.getElem?_eq_some_iff.mp hx).1
  rw [show k = 0 by omega] at hx
  cases hx
  exact h H hB
theorem G_get {ci k N : Nat} {T : u_T} {CN ref : String} {ty : Nat → FieldType} {fs : List Value} {v : Value} {a index : Nat} (C : Cx κ p s m args meth c cc nL own ret) (hF : FI ci CN T N ty) (hd : decode cc pc = .ok (.getfield index, 3)) (hw : Cond.fieldLink own index ref (T k).2.1 (T k).2.2.1 ∈ gw) (hr : (T k).1 = ref) (hk : k < N) (hv : rdv κ B a (.inr (ci, fs))) (hf : fs[k]? = some v) (hp : pc + 3 = pc') (kk : GG p l e R s m args below meth c Q A nL cells slots B pc' lv (v :: st)) : GG p l e R s m args below meth c Q A nL cells slots B pc lv (.ref a :: st) := by
  subst hp
  subst hr
  exact fun H locs ls hl hB hS => va_get (D := κ.1) (cl := vwCl) (tys := ktys κ) C.1 C.2.1 C.2.2.2.2.1 hF.1 C.2.2.2.1 C.2.2.2.2.2.1.1 (hv.P hB) 0 rfl hF.2.1 k hk (C.2.2.2.2.1 _ hw) (fun _ h9 => h9) hf hd (kk H locs ls hl hB hS)
theorem G_put {ci k N : Nat} {T : u_T} {CN ref : String} {ty : Nat → FieldType} {fs : List Value} {v : Value} {a index : Nat} {B' : Heap → Prop} (C : Cx κ p s m args meth c cc nL own ret) (hF : FI ci CN T N ty) (hd : decode cc pc = .ok (.putfield index, 3)) (hw : Cond.fieldLink own index ref (T k).2.1 (T k).2.2.1 ∈ gw) (hr : (T k).1 = ref) (hk : k < N) (hfin : (T k).2.2.2 = false) (hn : narrow (ty k) v = v) (hfit : fits (ty k) v = true) (hl : k < fs.length) (hv : rdv κ B a (.inr (ci, fs))) (hwr : wrv κ A B a (.inr (ci, fs.set k v)) B') (hp : pc + 3 = pc') (kk : GG p l e R s m args below meth c Q A nL cells slots B' pc' lv st) : GG p l e R s m args below meth c Q A nL cells slots B pc lv (v :: .ref a :: st) := by
  subst hp
  subst hr
  intro H locs ls hls hB hS
  obtain ⟨hts, hK⟩ : (∀ w ∈ gw, w.before args s = true) ∧ KC κ s := ⟨C.2.2.2.2.1, C.2.2.2.2.2.1⟩
  have hap := va_apart (own := own) hts hF.1 ty hF.2.2.1 hF.2.2.2 hK.1 hF.2.1
  obtain ⟨r, h1, cell, q1, q2, q3, q4⟩ := hv H hB
  have hr : r = (CN, T, N) := Option.some.inj (h1.symm.trans hF.2.1)
  subst hr
  obtain ⟨hSl, hfc, kC, hkC, hkind⟩ := hK.1.1 ci _ hF.2.1
  obtain ⟨cf, kf, fi, f, hi, hsl⟩ := hSl k hk
  have hlay := hts _ (hF.1 _ (u_in_lay hk))
  unfold u_lay at hlay
  rw [if_neg (by rw [hfin]; decide)] at hlay
  have hst := (u_facts hfc hkC (u_lays hts hF.1 hk) hi).1
  have h6 := u_store hfc hkC hkind hlay hi (hF.2.2.1 k hk) hn hfit
  refine W.putK C.1 C.2.1 (f := f) ⟨C.2.2.2.1, hts _ hw, ⟨_, _, _, hi⟩, hst⟩ (by rw [q2]; exact h6) q1 q3 (by rw [hsl]; exact k2_hasslot (q4 k hk)) rfl rfl hd fun H' e1 e2 e3 => ?_
  rw [hsl] at e1 ⊢
  exact kk H' _ ls hls (hwr.2 H H' hB e3 e2 ⟨_, hF.2.1, t_OB.to (V := updV (vp_V fs) k v) ⟨_, e1, q2, q3, t_set q4 hap hk v⟩ (fun j _ => vp_updV_set hl v j)⟩) (hS.put e2 e3 hwr.1)
theorem G_putF {ci k N : Nat} {T : u_T} {CN : String} {ty : Nat → FieldType} {fs : List Value} {v : Value} {a index : Nat} {B' : Heap → Prop} (C : Cx κ p s m args meth c cc nL own ret) (hin : meth.name = "<init>") (hF : FI ci CN T N ty) (hd : decode cc pc = .ok (.putfield index, 3)) (hw : Cond.fieldLink own index own (T k).2.1 (T k).2.2.1 ∈ gw) (hr : (T k).1 = own) (hk : k < N) (hfin : (T k).2.2.2 = true) (hn : narrow (ty k) v = v) (hfit : fits (ty k) v = true) (hl : k < fs.length) (hv : rdv κ B a (.inr (ci, fs))) (hwr : wrv κ A B a (.inr (ci, fs.set k v)) B') (hp : pc + 3 = pc') (kk : GG p l e R s m args below meth c Q A nL cells slots B' pc' lv st) : GG p l e R s m args below meth c Q A nL cells slots B pc lv (v :: .ref a :: st) := by
  subst hp
  intro H locs ls hls hB hS
  obtain ⟨hts, hK⟩ : (∀ w ∈ gw, w.before args s = true) ∧ KC κ s := ⟨C.2.2.2.2.1, C.2.2.2.2.2.1⟩
  have hap := va_apart (own := own) hts hF.1 ty hF.2.2.1 hF.2.2.2 hK.1 hF.2.1
  obtain ⟨r, h1, cell, q1, q2, q3, q4⟩ := hv H hB
  have hr' : r = (CN, T, N) := Option.some.inj (h1.symm.trans hF.2.1)
  subst hr'
  obtain ⟨hSl, hfc, kC, hkC, hkind⟩ := hK.1.1 ci _ hF.2.1
  obtain ⟨cf, kf, fi, f, hi, hsl⟩ := hSl k hk
  have hlay := hts _ (hF.1 _ (u_in_lay hk))
  unfold u_lay at hlay
  rw [if_pos hfin] at hlay
  have hst := (u_facts hfc hkC (u_lays hts hF.1 hk) hi).1
  have hcf : m.cls = cf := by
    obtain ⟨_, _, c', _, _, _, -, -, hf', -, -, -, hown2, -⟩ := Cond.laysFinal_spec hlay
    have e1 : c' = cf := by have := hi.symm.trans hf'; simp at this; exact this.1.symm
    rw [hr] at hown2
    rw [← e1]; exact Option.some.inj (C.2.2.2.1.symm.trans hown2)
  have h6 := u_fits hfc hkC hkind (Or.inr hlay) hi (hF.2.2.1 k hk) hn hfit
  rw [← hr] at hw
  refine W.putFinK C.1 C.2.1 C.2.2.2.1 (hts _ (hr ▸ hw)) hi hst hcf hin (by rw [q2]; exact h6) q1 q3 (by rw [hsl]; exact k2_hasslot (q4 k hk)) rfl rfl hd fun H' e1 e2 e3 => ?_
  rw [hsl] at e1 ⊢
  exact kk H' _ ls hls (hwr.2 H H' hB e3 e2 ⟨_, hF.2.1, t_OB.to (V := updV (vp_V fs) k v) ⟨_, e1, q2, q3, t_set q4 hap hk v⟩ (fun j _ => vp_updV_set hl v j)⟩) (hS.put e2 e3 hwr.1)
/-! arrays -/
theorem ce_i (cA : ClassId) (n k : Nat) (f : Nat → Int32) (x : Int32) : (vp_cell cA (n, .inl f)).setSlot k (.int x) = vp_cell cA (n, .inl (upd f k x)) := by
  rw [vp_cell_i, vp_cell_i, arrV_store]
  congr 1
  funext q
  by_cases hq : q = k
  · subst hq; simp [updV, upd]
  · simp [updV, upd, hq]
theorem ce_l (cA : ClassId) (n k : Nat) (f : Nat → Int64) (x : Int64) : (vp_cell cA (n, .inr (.inl f))).setSlot k (.long x) = vp_cell cA (n, .inr (.inl (vp_updL f k x))) := by
  rw [vp_cell_l, vp_cell_l, arrV_store]
  congr 1
  funext q
  by_cases hq : q = k
  · subst hq; simp [updV, vp_updL]
  · simp [updV, vp_updL, hq]
theorem ce_q (cA : ClassId) (n k : Nat) (f : Nat → Option Nat) (x : Option Nat) : (vp_cell cA (n, .inr (.inr (.inr (.inr f))))).setSlot k (va_rf x) = vp_cell cA (n, .inr (.inr (.inr (.inr (va_up f k x))))) := by
  rw [vp_cell_q, vp_cell_q, arrV_store]
  congr 1
  funext q
  by_cases hq : q = k
  · subst hq; simp [updV, va_up]
  · simp [updV, va_up, hq]
theorem G_iald {a n : Nat} {f : Nat → Int32} {i : Int32} (C : Cx κ p s m args meth c cc nL own ret) (hd : decode cc pc = .ok (.iaload, 1)) (hv : rdv κ B a (.inl (κ.2 0, n, .inl f))) (hi : vp_in i n) (hp : pc + 1 = pc') (kk : GG p l e R s m args below meth c Q A nL cells slots B pc' lv (.int (f i.toNatClampNeg) :: st)) : GG p l e R s m args below meth c Q A nL cells slots B pc lv (.int i :: .ref a :: st) := by
  subst hp
  exact fun H locs ls hl hB hS => va_iald (D := κ.1) (cl := vwCl) (tys := ktys κ) C.1 C.2.1 C.2.2.2.2.2.1.1 (hv.P hB) 0 0 rfl rfl hi hd (kk H locs ls hl hB hS)
theorem G_bald {a n : Nat} {f : Nat → Int32} {i : Int32} (C : Cx κ p s m args meth c cc nL own ret) (hd : decode cc pc = .ok (.baload, 1)) (hv : rdv κ B a (.inl (κ.2 2, n, .inl f))) (hi : vp_in i n) (hp : pc + 1 = pc') (kk : GG p l e R s m args below meth c Q A nL cells slots B pc' lv (.int (f i.toNatClampNeg) :: st)) : GG p l e R s m args below meth c Q A nL cells slots B pc lv (.int i :: .ref a :: st) := by
  subst hp
  exact fun H locs ls hl hB hS => va_bald (D := κ.1) (cl := vwCl) (tys := ktys κ) C.1 C.2.1 C.2.2.2.2.2.1.1 (hv.P hB) 0 2 rfl rfl hi hd (kk H locs ls hl hB hS)
theorem G_zald {a n : Nat} {f : Nat → Int32} {i : Int32} (C : Cx κ p s m args meth c cc nL own ret) (hd : decode cc pc = .ok (.baload, 1)) (hv : rdv κ B a (.inl (κ.2 3, n, .inl f))) (hi : vp_in i n) (hp : pc + 1 = pc') (kk : GG p l e R s m args below meth c Q A nL cells slots B pc' lv (.int (f i.toNatClampNeg) :: st)) : GG p l e R s m args below meth c Q A nL cells slots B pc lv (.int i :: .ref a :: st) := by
  subst hp
  exact fun H locs ls hl hB hS => va_zald (D := κ.1) (cl := vwCl) (tys := ktys κ) C.1 C.2.1 C.2.2.2.2.2.1.1 (hv.P hB) 0 3 rfl rfl hi hd (kk H locs ls hl hB hS)
theorem G_lald {a n : Nat} {f : Nat → Int64} {i : Int32} (C : Cx κ p s m args meth c cc nL own ret) (hd : decode cc pc = .ok (.laload, 1)) (hv : rdv κ B a (.inl (κ.2 1, n, .inr (.inl f)))) (hi : vp_in i n) (hp : pc + 1 = pc') (kk : GG p l e R s m args below meth c Q A nL cells slots B pc' lv (.long (f i.toNatClampNeg) :: st)) : GG p l e R s m args below meth c Q A nL cells slots B pc lv (.int i :: .ref a :: st) := by
  subst hp
  exact fun H locs ls hl hB hS => va_lald (D := κ.1) (cl := vwCl) (tys := ktys κ) C.1 C.2.1 C.2.2.2.2.2.1.1 (hv.P hB) 0 1 rfl rfl hi hd (kk H locs ls hl hB hS)
theorem G_aald4 {a n : Nat} {f : Nat → Option Nat} {i : Int32} (C : Cx κ p s m args meth c cc nL own ret) (hd : decode cc pc = .ok (.aaload, 1)) (hv : rdv κ B a (.inl (κ.2 4, n, .inr (.inr (.inr (.inr f)))))) (hi : vp_in i n) (hp : pc + 1 = pc') (kk : GG p l e R s m args below meth c Q A nL cells slots B pc' lv (va_rf (f i.toNatClampNeg) :: st)) : GG p l e R s m args below meth c Q A nL cells slots B pc lv (.int i :: .ref a :: st) := by
  subst hp
  exact fun H locs ls hl hB hS => va_aldq (D := κ.1) (cl := vwCl) (tys := ktys κ) C.1 C.2.1 C.2.2.2.2.2.1.1 (hv.P hB) 0 4 rfl rfl hi hd (kk H locs ls hl hB hS)
theorem G_aald5 {a n : Nat} {f : Nat → Option Nat} {i : Int32} (C : Cx κ p s m args meth c cc nL own ret) (hd : decode cc pc = .ok (.aaload, 1)) (hv : rdv κ B a (.inl (κ.2 5, n, .inr (.inr (.inr (.inr f)))))) (hi : vp_in i n) (hp : pc + 1 = pc') (kk : GG p l e R s m args below meth c Q A nL cells slots B pc' lv (va_rf (f i.toNatClampNeg) :: st)) : GG p l e R s m args below meth c Q A nL cells slots B pc lv (.int i :: .ref a :: st) := by
  subst hp
  exact fun H locs ls hl hB hS => va_aldq (D := κ.1) (cl := vwCl) (tys := ktys κ) C.1 C.2.1 C.2.2.2.2.2.1.1 (hv.P hB) 0 5 rfl rfl hi hd (kk H locs ls hl hB hS)
theorem G_iast {a n : Nat} {f : Nat → Int32} {i : Int32} {x : Int32} {B' : Heap → Prop} (C : Cx κ p s m args meth c cc nL own ret) (hd : decode cc pc = .ok (.iastore, 1)) (hv : rdv κ B a (.inl (κ.2 0, n, .inl f))) (hi : vp_in i n) (hwr : wrv κ A B a (.inl (κ.2 0, n, .inl (upd f i.toNatClampNeg x))) B') (hp : pc + 1 = pc') (kk : GG p l e R s m args below meth c Q A nL cells slots B' pc' lv st) : GG p l e R s m args below meth c Q A nL cells slots B pc lv (.int x :: .int i :: .ref a :: st) := by
  subst hp
  intro H locs ls hl hB hS
  refine W.iast C.1 C.2.1 (hv H hB) ((C.2.2.2.2.2.1.1.2 0 _ rfl).1 n (fun j => .int (f j))) (fun q => by cases q) (by show ¬ (i < 0 ∨ (arrV _ _ _).slots.size ≤ _); rw [arrV_size]; exact hi) rfl rfl hd fun H1 e1 z oq => ?_
  exact kk H1 _ ls hl (hwr.2 H H1 hB oq z (by show H1[a]? = some (vp_cell _ _); rw [e1]; exact congrArg some (ce_i _ _ _ _ _))) (hS.put z oq hwr.1)
theorem G_bast {a n : Nat} {f : Nat → Int32} {i : Int32} {x : Int32} {B' : Heap → Prop} (C : Cx κ p s m args meth c cc nL own ret) (hd : decode cc pc = .ok (.bastore, 1)) (hv : rdv κ B a (.inl (κ.2 2, n, .inl f))) (hi : vp_in i n) (hwr : wrv κ A B a (.inl (κ.2 2, n, .inl (upd f i.toNatClampNeg x.toInt8.toInt32))) B') (hp : pc + 1 = pc') (kk : GG p l e R s m args below meth c Q A nL cells slots B' pc' lv st) : GG p l e R s m args below meth c Q A nL cells slots B pc lv (.int x :: .int i :: .ref a :: st) := by
  subst hp
  intro H locs ls hl hB hS
  refine W.bast C.1 C.2.1 (hv H hB) ((C.2.2.2.2.2.1.1.2 2 _ rfl).1 n (fun j => .int (f j))) (fun q => by cases q) (by show ¬ (i < 0 ∨ (arrV _ _ _).slots.size ≤ _); rw [arrV_size]; exact hi) rfl rfl hd fun H1 e1 z oq => ?_
  exact kk H1 _ ls hl (hwr.2 H H1 hB oq z (by show H1[a]? = some (vp_cell _ _); rw [e1]; exact congrArg some (ce_i _ _ _ _ _))) (hS.put z oq hwr.1)
theorem G_zast {a n : Nat} {f : Nat → Int32} {i : Int32} {x : Int32} {B' : Heap → Prop} (C : Cx κ p s m args meth c cc nL own ret) (hd : decode cc pc = .ok (.bastore, 1)) (hv : rdv κ B a (.inl (κ.2 3, n, .inl f))) (hi : vp_in i n) (hwr : wrv κ A B a (.inl (κ.2 3, n, .inl (upd f i.toNatClampNeg (vp_nar .boolean x)))) B') (hp : pc + 1 = pc') (kk : GG p l e R s m args below meth c Q A nL cells slots B' pc' lv st) : GG p l e R s m args below meth c Q A nL cells slots B pc lv (.int x :: .int i :: .ref a :: st) := by
  subst hp
  intro H locs ls hl hB hS
  refine W.zast C.1 C.2.1 (hv H hB) ((C.2.2.2.2.2.1.1.2 3 _ rfl).1 n (fun j => .int (f j))) (fun q => by cases q) (by show ¬ (i < 0 ∨ (arrV _ _ _).slots.size ≤ _); rw [arrV_size]; exact hi) rfl rfl hd fun H1 e1 z oq => ?_
  exact kk H1 _ ls hl (hwr.2 H H1 hB oq z (by show H1[a]? = some (vp_cell _ _); rw [e1]; exact congrArg some (ce_i _ _ _ _ _))) (hS.put z oq hwr.1)
theorem G_last {a n : Nat} {f : Nat → Int64} {i : Int32} {x : Int64} {B' : Heap → Prop} (C : Cx κ p s m args meth c cc nL own ret) (hd : decode cc pc = .ok (.lastore, 1)) (hv : rdv κ B a (.inl (κ.2 1, n, .inr (.inl f)))) (hi : vp_in i n) (hwr : wrv κ A B a (.inl (κ.2 1, n, .inr (.inl (vp_updL f i.toNatClampNeg x)))) B') (hp : pc + 1 = pc') (kk : GG p l e R s m args below meth c Q A nL cells slots B' pc' lv st) : GG p l e R s m args below meth c Q A nL cells slots B pc lv (.long x :: .int i :: .ref a :: st) := by
  subst hp
  intro H locs ls hl hB hS
  refine W.last C.1 C.2.1 (hv H hB) ((C.2.2.2.2.2.1.1.2 1 _ rfl).1 n (fun j => .long (f j))) (fun q => by cases q) (by show ¬ (i < 0 ∨ (arrV _ _ _).slots.size ≤ _); rw [arrV_size]; exact hi) rfl rfl hd fun H1 e1 z oq => ?_
  exact kk H1 _ ls hl (hwr.2 H H1 hB oq z (by show H1[a]? = some (vp_cell _ _); rw [e1]; exact congrArg some (ce_l _ _ _ _ _))) (hS.put z oq hwr.1)
theorem G_alen {a : Nat} {x : vp_A} (kn : Nat) {ty : FieldType} (C : Cx κ p s m args meth c cc nL own ret) (hd : decode cc pc = .ok (.arraylength, 1)) (ht : (ktys κ)[kn]? = some (κ.2 kn, ty)) (hv : rdv κ B a (.inl (κ.2 kn, x))) (hp : pc + 1 = pc') (kk : GG p l e R s m args below meth c Q A nL cells slots B pc' lv (.int (nI x.1) :: st)) : GG p l e R s m args below meth c Q A nL cells slots B pc lv (.ref a :: st) := by
  subst hp
  exact fun H locs ls hl hB hS => va_alen (D := κ.1) (cl := vwCl) (tys := ktys κ) C.1 C.2.1 C.2.2.2.2.2.1.1 (hv.P hB) 0 kn rfl ht rfl hd (kk H locs ls hl hB hS)
/-! answers -/
theorem G_iret {v : Int32} {B' : Heap → Prop} (C : Cx κ p s m args meth c cc nL own (some .int)) (hd : decode cc pc = .ok (.ireturn, 1)) (hB' : ∀ H, B H → B' H) : GG p l e R s m args below meth c (MQ below (Qg A (some (.int v)) B') args s cells slots A) A nL cells slots B pc lv [.int v] := fun H locs ls hl hB hS => W.iret C.1 C.2.1 C.2.2.2.2.2.2.1 (fun t ht hW => ⟨rfl, by rw [ht]; exact hB' H hB, hS.F ht⟩) hS.2.2 hd C.2.2.2.2.2.2.2
theorem G_zret {v : Int32} {ty : FieldType} {B' : Heap → Prop} (C : Cx κ p s m args meth c cc nL own (some ty)) (hn : narrow ty (.int v) = .int v) (hd : decode cc pc = .ok (.ireturn, 1)) (hB' : ∀ H, B H → B' H) : GG p l e R s m args below meth c (MQ below (Qg A (some (.int v)) B') args s cells slots A) A nL cells slots B pc lv [.int v] := fun H locs ls hl hB hS => W.zret C.1 C.2.1 C.2.2.2.2.2.2.1 hn (fun t ht hW => ⟨rfl, by rw [ht]; exact hB' H hB, hS.F ht⟩) hS.2.2 hd C.2.2.2.2.2.2.2
theorem G_lret {v : Int64} {B' : Heap → Prop} (C : Cx κ p s m args meth c cc nL own (some .long)) (hd : decode cc pc = .ok (.lreturn, 1)) (hB' : ∀ H, B H → B' H) : GG p l e R s m args below meth c (MQ below (Qg A (some (.long v)) B') args s cells slots A) A nL cells slots B pc lv [.long v] := fun H locs ls hl hB hS => W.lret C.1 C.2.1 C.2.2.2.2.2.2.1 (fun t ht hW => ⟨rfl, by rw [ht]; exact hB' H hB, hS.F ht⟩) hS.2.2 hd C.2.2.2.2.2.2.2
theorem G_vret {B' : Heap → Prop} (C : Cx κ p s m args meth c cc nL own none) (hd : decode cc pc = .ok (.return_, 1)) (hB' : ∀ H, B H → B' H) : GG p l e R s m args below meth c (MQ below (Qg A none B') args s cells slots A) A nL cells slots B pc lv [] := fun H locs ls hl hB hS => W.vret C.1 C.2.1 C.2.2.2.2.2.2.1 (fun t ht hW => ⟨rfl, by rw [ht]; exact hB' H hB, hS.F ht⟩) hS.2.2 hd C.2.2.2.2.2.2.2
theorem G_aret {x : Nat} {CN : String} {B' : Heap → Prop} (C : Cx κ p s m args meth c cc nL own (some (.object CN))) (hd : decode cc pc = .ok (.areturn, 1)) (hB' : ∀ H, B H → B' H) : GG p l e R s m args below meth c (MQ below (Qg A (some (.ref x)) B') args s cells slots A) A nL cells slots B pc lv [.ref x] := fun H locs ls hl hB hS => W.aret C.1 C.2.1 C.2.2.2.2.2.2.1 (Or.inl ⟨_, rfl⟩) (Or.inr ⟨x, rfl⟩) (fun t ht hW => ⟨rfl, by rw [ht]; exact hB' H hB, hS.F ht⟩) hS.2.2 hd C.2.2.2.2.2.2.2
/-! calls -/
theorem G_after {A1 : Nat → Prop} {st0 rest st' : List Value} {v' : Option Value} {B' F : Heap → Prop} {mc ms : Nat} {av : Array Value} {H : Heap} {locs : List Loc} {ls : Array Slot} (hl : lv_has ls nL lv) (hS : va_S A s.heap H locs) (hA : ∀ q, A1 q → A q) (hF : F H) (hfr : ∀ H1 : Heap, H.size ≤ H1.size → (∀ q : Nat, q < H.size → ¬ A1 q → H1[q]? = H[q]?) → F H → F H1) (hr : va_Run p l e R s m args below meth c H locs cells slots mc ms (F0 m pc ls st0) rest (Qg A1 v' B' av) A1) (hst : v'.toList ++ rest = st') (kk : GG p l e R s m args below meth c Q A nL (cells + mc) (slots + ms) (fun H => B' H ∧ F H) (pc + 3) lv st') : W p l e R s m args below meth c H locs cells slots Q (F0 m pc ls st0) := by
  intro T hT X
  obtain ⟨v, st₀, t, T', L, h0, X', hL, e1, e2, ⟨hv, hb, hz, hk⟩, st⟩ := hr T hT X
  cases hv
  subst hst
  rw [h0] at hz hk
  obtain ⟨t2, a1, b1⟩ := kk T'.heap (locs ++ L) ls hl (by rw [e1]; exact ⟨hb, hfr t.heap hz hk hF⟩)
    ⟨Nat.le_trans hS.1 (by rw [e1]; exact hz), fun q h1 h2 => by rw [e1, hk q (Nat.lt_of_lt_of_le h1 hS.1) (fun z => h2 (hA q z))]; exact hS.2.1 q h1 h2, fun q hq => by
      rcases List.mem_append.mp hq with h | h
      · exact hS.2.2 q h
      · exact hA _ (hL q h)⟩ T' rfl X'
  exact ⟨t2, st t2 a1, b1⟩
theorem rdv.recv {a ci : Nat} {fs : List Value} {r : vw_C} {H : Heap} (h : rdv κ B a (.inr (ci, fs))) (hc : vwCl[ci]? = some r) (hB : B H) (hK : KC κ s) : ∃ cell : Cell, H[a]? = some cell ∧ cell.vm.isStatics = false ∧ s.vm.findClass r.1 = some cell.cls := va_recv hK.1 (h.P hB) hc (q0 := 0) rfl
theorem pc_blind {avs : List Value} : FrameBlind (va_Pc avs (fun U => B U.heap ∧ KC κ U)) := fun a U g mk q => ⟨q.1, q.2.1, KC.same (U := U.calling g mk a) rfl q.2.2⟩
theorem wV {oc C' : String} {idx : Nat} {y : MethodName} {c' : ByteArray} {n : Nat} {r : Option FieldType} (h1 : Cond.methodLink oc idx y ∈ gw) (h2 : Cond.instanceMethod y ∈ gw) (h3 : Cond.selects C' y y ∈ gw) (h4 : Cond.initialized C' ∈ gw) (h5 : Cond.code y c' n r ∈ gw) : GoodIn gw (wsV oc idx C' y (wz y c' n r)) := fun w hw => by
  unfold wsV at hw
  rcases List.mem_append.mp hw with h | h
  · have hg : w ∈ gw := by
      simp only [List.mem_cons, List.not_mem_nil, or_false] at h
      rcases h with rfl | rfl | rfl | rfl
      · exact h1
      · exact h2
      · exact h3
      · exact h4
    exact ⟨hg, good_of_word (gw_good _ hg)⟩
  · exact wz_in h5 w h
theorem wS {oc : String} {idx : Nat} {y : MethodName} {c' : ByteArray} {n : Nat} {r : Option FieldType} (h1 : Cond.methodLink oc idx y ∈ gw) (h2 : Cond.static y ∈ gw) (h5 : Cond.code y c' n r ∈ gw) (h6 : Cond.initialized y.cls ∈ gw) : Cond.methodLink oc idx y ∈ gw ∧ Cond.static y ∈ gw ∧ Cond.code y c' n r ∈ gw ∧ Cond.initialized y.cls ∈ gw := ⟨h1, h2, h5, h6⟩
/-- a call of an object's method -/
theorem G_callV {y : MethodName} {bytes : ByteArray} {maxL n index ci b N : Nat} {T : u_T} {ty : Nat → FieldType} {CN : String} {ret' : Option FieldType} {rm : Room} {A1 : Nat → Prop} {As fs rest st0 st' : List Value} {v' : Option Value} {B1 B' F : Heap → Prop} (C : Cx κ p s m args meth c cc nL own ret) (hd : decode cc pc = .ok (.invokevirtual index, 3))
    (hM : MM κ l y bytes maxL ret' rm A1 (.ref b :: As) B1 v' B') (hw : GoodIn gw (wsV own index CN y (wz y bytes maxL ret'))) (hy : y.cls = CN ∧ y.cls ≠ "java/lang/invoke/MethodHandle" ∧ y.cls ≠ "java/lang/invoke/VarHandle" ∧ (parseMethodDescriptor y.desc).map (fun d => d.parameters.length) = some n) (hn : As.length = n) (hF : FI ci CN T N ty) (hv : rdv κ B b (.inr (ci, fs)))
    (hR : (rm.frames + 1 ≤ R.frames ∧ 8 + (maxL + 11) + rm.locals ≤ R.locals) ∧ cells + rm.cells ≤ R.cells ∧ slots + rm.slots ≤ R.slots) (hA : ∀ q, A1 q → A q) (hBF : ∀ H, B H → B1 H ∧ F H) (hfr : ∀ H H1 : Heap, B H → H.size ≤ H1.size → (∀ q : Nat, q < H.size → ¬ A1 q → H1[q]? = H[q]?) → F H → F H1)
    (hs0 : st0 = As.reverse ++ .ref b :: rest) (hrest : (rest.map fun v => v.category).sum ≤ 8) (hst : v'.toList ++ rest = st') (hp : pc + 3 = pc') (kk : GG p l e R s m args below meth c Q A nL (cells + rm.cells) (slots + rm.slots) (fun H => B' H ∧ F H) pc' lv st') : GG p l e R s m args below meth c Q A nL cells slots B pc lv st0 := by
  subst hp
  intro H locs ls hl hB hS
  refine G_after hl hS hA (hBF H hB).2 (fun H1 h1 h2 h3 => hfr H H1 hB h1 h2 h3) (va_runV (As := As) (rest := rest) (nL := nL) (Ts := gw) (own := own) ⟨C.1, C.2.1, C.2.2.1, C.2.2.2.1, C.2.2.2.2.1⟩ hM (cwV n C.2.2.2.2.1 hw rfl rfl rfl hy hR.1) ⟨pc_blind, hv.recv hF.2.1 hB C.2.2.2.2.2.1, fun U hU hW => ⟨rfl, by rw [hU]; exact (hBF H hB).1, C.2.2.2.2.2.1.warm hW⟩⟩ rfl hn hl.1 hs0 (lv_room hrest) hd hR.2) hst kk
/-- a call of a static method -/
theorem G_callS {y : MethodName} {bytes : ByteArray} {maxL n index : Nat} {ret' : Option FieldType} {rm : Room} {A1 : Nat → Prop} {As rest st0 st' : List Value} {v' : Option Value} {B1 B' F : Heap → Prop} (C : Cx κ p s m args meth c cc nL own ret) (hd : decode cc pc = .ok (.invokestatic index, 3))
    (hM : MM κ l y bytes maxL ret' rm A1 As B1 v' B') (hw : Cond.methodLink own index y ∈ gw ∧ Cond.static y ∈ gw ∧ Cond.code y bytes maxL ret' ∈ gw ∧ Cond.initialized y.cls ∈ gw) (hy : y.cls ≠ "java/lang/invoke/MethodHandle" ∧ y.cls ≠ "java/lang/invoke/VarHandle" ∧ (parseMethodDescriptor y.desc).map (fun d => d.parameters.length) = some n) (hn : As.length = n)
    (hR : (rm.frames + 1 ≤ R.frames ∧ 8 + (maxL + 11) + rm.locals ≤ R.locals) ∧ cells + rm.cells ≤ R.cells ∧ slots + rm.slots ≤ R.slots) (hA : ∀ q, A1 q → A q) (hBF : ∀ H, B H → B1 H ∧ F H) (hfr : ∀ H H1 : Heap, B H → H.size ≤ H1.size → (∀ q : Nat, q < H.size → ¬ A1 q → H1[q]? = H[q]?) → F H → F H1)
    (hs0 : st0 = As.reverse ++ rest) (hrest : (rest.map fun v => v.category).sum ≤ 8) (hst : v'.toList ++ rest = st') (hp : pc + 3 = pc') (kk : GG p l e R s m args below meth c Q A nL (cells + rm.cells) (slots + rm.slots) (fun H => B' H ∧ F H) pc' lv st') : GG p l e R s m args below meth c Q A nL cells slots B pc lv st0 := by
  subst hp
  intro H locs ls hl hB hS
  refine G_after hl hS hA (hBF H hB).2 (fun H1 h1 h2 h3 => hfr H H1 hB h1 h2 h3) (va_runS (As := As) (rest := rest) (nL := nL) (Ts := gw) (own := own) ⟨C.1, C.2.1, C.2.2.1, C.2.2.2.1, C.2.2.2.2.1⟩ hM ⟨callB_of n C.2.2.2.2.1 (wz_in hw.2.2.1) rfl rfl rfl (C.2.2.2.2.1 _ hw.2.2.2) (C.2.2.2.2.1 _ hw.1) hy hR.1, C.2.2.2.2.1 _ hw.2.1⟩ ⟨pc_blind, fun U hU hW => ⟨rfl, by rw [hU]; exact (hBF H hB).1, C.2.2.2.2.2.1.warm hW⟩⟩ rfl hn hl.1 hs0 (lv_room hrest) hd hR.2) hst kk
end GROWS
