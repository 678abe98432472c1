theorem z_ip {c : Prop} {d : Decidable c} {α : Type} {a b : Option α} {x : α} (hc : c) (h : @ite _ c d a b = some x) : a = some x := by rw [if_pos hc] at h; exact h
theorem z_in {c : Prop} {d : Decidable c} {α : Type} {a b : Option α} {x : α} (hc : ¬ c) (h : @ite _ c d a b = some x) : b = some x := by rw [if_neg hc] at h; exact h
def sel {α β γ : Type} (w : α ⊕ β) (f : α → γ) (g : β → γ) : γ := match w with
  | .inl x => f x
  | .inr y => g y
theorem z_sl {α β γ : Type} {x : α} {f : α → Option γ} {g : β → Option γ} {b : γ} (h : sel (.inl x) f g = some b) : f x = some b := h
theorem z_sr {α β γ : Type} {x : β} {f : α → Option γ} {g : β → Option γ} {b : γ} (h : sel (.inr x) f g = some b) : g x = some b := h
abbrev GR (κ : KK) (p : Program) (l : Launch) (e : Env) (s : State) (m : MethodId) (args : Array Value) (below : List Frame) (meth : Method) (c : Code) (rm : Room) (nL o : Nat) (v : Option Value) (B' : Heap → Prop) (r : RS) (pc : Nat) (lv : List (Nat × Value)) (st : List Value) : Prop := GG p l e rm s m args below meth c (MQ below (Qg (RA o) v B') args s rm.cells rm.slots (RA o)) (RA o) nL 0 0 (RB κ o r) pc lv st
abbrev GT (p : Program) (l : Launch) (e : Env) (s : State) (m : MethodId) (args : Array Value) (below : List Frame) (meth : Method) (c : Code) (rm : Room) (nL : Nat) (A : Nat → Prop) (v : Option Value) (B' B : Heap → Prop) (pc : Nat) (lv : List (Nat × Value)) (st : List Value) : Prop := GG p l e rm s m args below meth c (MQ below (Qg A v B') args s rm.cells rm.slots A) A nL 0 0 B pc lv st
section ZROWS
variable {κ : KK} {p : Program} {l : Launch} {e : Env} {R : Room} {s : State} {m : MethodId} {args : Array Value} {below : List Frame} {meth : Method} {c : Code} {Q : State → Prop} {A : Nat → Prop} {nL cells slots : Nat} {B : Heap → Prop} {pc pc' : Nat} {lv : List (Nat × Value)} {st : List Value} {cc : ByteArray} {own : String} {ret : Option FieldType}
theorem G_cV0 {y : MethodName} {bytes : ByteArray} {maxL n index ci b N : Nat} {T : u_T} {ty : Nat → FieldType} {CN : String} {ret' : Option FieldType} {rm : Room} {As fs rest st0 st' : List Value} {v' : Option Value} {B' : Heap → Prop} (C : Cx κ p s m args meth c cc nL own ret) (hd : decode cc pc = .ok (.invokevirtual index, 3))
    (hM : MM κ l y bytes maxL ret' rm A (.ref b :: As) B v' B') (hw : GoodIn gw (wsV own index CN y (wz y bytes maxL ret'))) (hy : y.cls = CN ∧ y.cls ≠ "java/lang/invoke/MethodHandle" ∧ y.cls ≠ "java/lang/invoke/VarHandle" ∧ (parseMethodDescriptor y.desc).map (fun d => d.parameters.length) = some n) (hn : As.length = n) (hF : FI ci CN T N ty) (hv : rdv κ B b (.inr (ci, fs))) (z1 : rm.cells = 0) (z2 : rm.slots = 0)
    (hR : (rm.frames + 1 ≤ R.frames ∧ 8 + (maxL + 11) + rm.locals ≤ R.locals) ∧ cells + rm.cells ≤ R.cells ∧ slots + rm.slots ≤ R.slots) (hs0 : st0 = As.reverse ++ .ref b :: rest) (hrest : (rest.map fun v => v.category).sum ≤ 8) (hst : v'.toList ++ rest = st') (hp : pc + 3 = pc') (kk : GG p l e R s m args below meth c Q A nL cells slots B' pc' lv st') : GG p l e R s m args below meth c Q A nL cells slots B pc lv st0 :=
  G_cV C hd hM hw hy hn hF hv hR hs0 hrest hst hp (by rw [z1, z2]; exact kk)
theorem G_cS0 {y : MethodName} {bytes : ByteArray} {maxL n index : Nat} {ret' : Option FieldType} {rm : Room} {As rest st0 st' : List Value} {v' : Option Value} {B' : Heap → Prop} (C : Cx κ p s m args meth c cc nL own ret) (hd : decode cc pc = .ok (.invokestatic index, 3))
    (hM : MM κ l y bytes maxL ret' rm A As B v' B') (hw : Cond.methodLink own index y ∈ gw ∧ Cond.static y ∈ gw ∧ Cond.code y bytes maxL ret' ∈ gw ∧ Cond.initialized y.cls ∈ gw) (hy : y.cls ≠ "java/lang/invoke/MethodHandle" ∧ y.cls ≠ "java/lang/invoke/VarHandle" ∧ (parseMethodDescriptor y.desc).map (fun d => d.parameters.length) = some n) (hn : As.length = n) (z1 : rm.cells = 0) (z2 : rm.slots = 0)
    (hR : (rm.frames + 1 ≤ R.frames ∧ 8 + (maxL + 11) + rm.locals ≤ R.locals) ∧ cells + rm.cells ≤ R.cells ∧ slots + rm.slots ≤ R.slots) (hs0 : st0 = As.reverse ++ rest) (hrest : (rest.map fun v => v.category).sum ≤ 8) (hst : v'.toList ++ rest = st') (hp : pc + 3 = pc') (kk : GG p l e R s m args below meth c Q A nL cells slots B' pc' lv st') : GG p l e R s m args below meth c Q A nL cells slots B pc lv st0 :=
  G_cS C hd hM hw hy hn hR hs0 hrest hst hp (by rw [z1, z2]; exact kk)
theorem G_idivV {x y v : Int32} (C : Cx κ p s m args meth c cc nL own ret) (hd : decode cc pc = .ok (.idiv, 1)) (hv : dvI x y = some v) (hp : pc + 1 = pc') (kk : GG p l e R s m args below meth c Q A nL cells slots B pc' lv (.int v :: st)) : GG p l e R s m args below meth c Q A nL cells slots B pc lv (.int y :: .int x :: st) := by
  obtain ⟨hz, rfl⟩ := dvI_s hv
  exact G_idiv C hd hz hp kk
theorem G_iremV {x y v : Int32} (C : Cx κ p s m args meth c cc nL own ret) (hd : decode cc pc = .ok (.irem, 1)) (hv : rmI x y = some v) (hp : pc + 1 = pc') (kk : GG p l e R s m args below meth c Q A nL cells slots B pc' lv (.int v :: st)) : GG p l e R s m args below meth c Q A nL cells slots B pc lv (.int y :: .int x :: st) := by
  obtain ⟨hz, rfl⟩ := rmI_s hv
  exact G_irem C hd hz hp kk
end ZROWS
