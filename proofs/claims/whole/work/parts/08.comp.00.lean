section NROWS
variable {κ : KK} {p : Program} {l : Launch} {e : Env} {R : Room} {s : State} {m : MethodId} {args : Array Value} {below : List Frame} {meth : Method} {c : Code} {Q : State → Prop} {A : Nat → Prop} {nL cells slots : Nat} {B : Heap → Prop} {pc pc' : Nat} {lv : List (Nat × Value)} {st : List Value} {cc : ByteArray} {own : String} {ret : Option FieldType}
theorem va_S.nw {A : Nat → Prop} {H0 H H1 : Heap} {locs : List Loc} (hS : va_S A H0 H locs) (z1 : H1.size = H.size + 1) (o1 : ∀ q : Nat, q < H.size → H1[q]? = H[q]?) : va_S A H0 H1 locs := ⟨Nat.le_trans hS.1 (by omega), fun x h1 h2 => (o1 x (Nat.lt_of_lt_of_le h1 hS.1)).trans (hS.2.1 x h1 h2), hS.2.2⟩
/-- a new array of numbers -/
theorem G_newa {kn n N : Nat} {x : Int32} {a0 : vp_A} {atype : ArrayType} {ty : FieldType} {B' : Heap → Prop} (C : Cx κ p s m args meth c cc nL own ret) (hd : decode cc pc = .ok (.newarray atype, 2)) (harr : Cond.arrayClass ty ∈ gw) (hty : newarray.typeOf atype = ty) (ht : (ktys κ)[kn]? = some (κ.2 kn, ty)) (hpr : ∀ C', ty ≠ .object C') (ha : ∀ cA : ClassId, vp_cell cA a0 = arrV cA N (fun _ => defaultValue ty)) (hn : ¬ x < 0) (hN : x.toNatClampNeg = N) (hbytes : N * componentBytes ty ≤ 536870912) (hcells : cells + 1 ≤ R.cells) (hslots : slots + N ≤ R.slots) (hw : nwv κ A B n (.inl (κ.2 kn, a0)) B') (hp : pc + 2 = pc') (kk : GG p l e R s m args below meth c Q A nL (cells + 1) (slots + N) B' pc' lv (.ref n :: st)) : GG p l e R s m args below meth c Q A nL cells slots B pc lv (.int x :: st) := by
  subst hp
  subst hty
  intro H locs ls hl hB hS
  have hsz := hw.2.1 H hB
  refine va_newaK C.1 C.2.1 (C.2.2.2.2.1 _ harr) rfl hd rfl hn hN hbytes hcells hslots hsz fun H1 cA e1 z1 o1 hAr hNm => ?_
  have hcA : cA = κ.2 kn := by
    have h2 := (C.2.2.2.2.2.1.1.2 kn _ ht).2
    unfold va_RA at h2
    revert h2
    cases hq : newarray.typeOf atype with
    | object C' => exact absurd hq (hpr C')
    | _ => intro h2; rw [hq] at hNm; exact Option.some.inj (hNm.symm.trans h2)
  subst hcA
  exact kk H1 locs ls hl (hw.2.2 H H1 hB o1 z1 (by show H1[n]? = some (vp_cell _ _); rw [ha]; exact e1)) (hS.nw (by rw [z1, hsz]) (fun q hq => o1 q (by rw [← hsz]; exact hq)))
/-- a new object -/
theorem G_new {ci n N index : Nat} {T : u_T} {CN : String} {ty : Nat → FieldType} {fs : List Value} {B' : Heap → Prop} (C : Cx κ p s m args meth c cc nL own ret) (hF : FI ci CN T N ty) (hd : decode cc pc = .ok (.new index, 3)) (hcl : Cond.classLink own index CN ∈ gw) (hins : Cond.instantiable CN N ∈ gw) (hini : Cond.initialized CN ∈ gw) (hfs : ∀ j, j < N → defaultValue (ty j) = vp_V fs j) (hcells : cells + 1 ≤ R.cells) (hslots : slots + N ≤ R.slots) (hw : nwv κ A B n (.inr (ci, fs)) B') (hp : pc + 3 = pc') (kk : GG p l e R s m args below meth c Q A nL (cells + 1) (slots + N) B' pc' lv (.ref n :: st)) : GG p l e R s m args below meth c Q A nL cells slots B pc lv st := by
  subst hp
  intro H locs ls hl hB hS
  have hts := C.2.2.2.2.1
  have hsz := hw.2.1 H hB
  have hKn := C.2.2.2.2.2.1.1.1 ci _ hF.2.1
  refine W.newcK C.1 C.2.1 C.2.2.2.1 (hts _ hcl) (hts _ hins) (hts _ hini) rfl hd hcells hslots hKn.2.1 hsz fun H1 kC hkC e1 z1 o1 => ?_
  exact kk H1 locs ls hl (hw.2.2 H H1 hB o1 z1 ⟨_, hF.2.1, (u_born ty hts hF.1 hKn hkC e1 hF.2.2.1).to hfs⟩) (hS.nw (by rw [z1, hsz]) (fun q hq => o1 q (by rw [← hsz]; exact hq)))
theorem G_objInit {idx a : Nat} (C : Cx κ p s m args meth c cc nL own ret) (hd : decode cc pc = .ok (.invokespecial idx, 3)) (hw : Cond.methodLink own idx objectInit ∈ gw) (h1 : Cond.instanceMethod objectInit ∈ gw) (h2 : Cond.code objectInit ⟨#[0xb1]⟩ 1 none ∈ gw) (hR : 1 ≤ R.frames ∧ (st.map fun v => v.category).sum + 12 ≤ R.locals) (hp : pc + 3 = pc') (kk : GG p l e R s m args below meth c Q A nL cells slots B pc' lv st) : GG p l e R s m args below meth c Q A nL cells slots B pc lv (.ref a :: st) := by
  subst hp
  intro H locs ls hl hB hS
  have hts := C.2.2.2.2.1
  refine W.objInit C.1 C.2.1 C.2.2.2.1 (hts _ hw) (hts _ h1) (hts _ h2) rfl (by rw [C.2.2.1]; exact hl.1) rfl hd hR.1 (by show 2 * 0 + _ + 12 ≤ _; omega) (kk H locs ls hl hB hS)
theorem G_callI {y : MethodName} {bytes : ByteArray} {maxL n index b : Nat} {rm : Room} {A1 : Nat → Prop} {As rest st0 : List Value} {B1 B' F : Heap → Prop} (C : Cx κ p s m args meth c cc nL own ret) (hd : decode cc pc = .ok (.invokespecial index, 3))
    (hM : MM κ l y bytes maxL none rm A1 (.ref b :: As) B1 none B') (hw : Cond.methodLink own index y ∈ gw ∧ Cond.instanceMethod y ∈ gw ∧ Cond.code y bytes maxL none ∈ gw ∧ Cond.initialized y.cls ∈ gw) (hy1 : y.name = "<init>") (hy : y.cls ≠ "java/lang/invoke/MethodHandle" ∧ y.cls ≠ "java/lang/invoke/VarHandle" ∧ (parseMethodDescriptor y.desc).map (fun d => d.parameters.length) = some n) (hn : As.length = n)
    (hR : (rm.frames + 1 ≤ R.frames ∧ 8 + (maxL + 11) + rm.locals ≤ R.locals) ∧ cells + rm.cells ≤ R.cells ∧ slots + rm.slots ≤ R.slots) (hA : ∀ q, A1 q → A q) (hBF : ∀ H, B H → B1 H ∧ F H) (hfr : ∀ H H1 : Heap, B H → H.size ≤ H1.size → (∀ q : Nat, q < H.size → ¬ A1 q → H1[q]? = H[q]?) → F H → F H1)
    (hs0 : st0 = As.reverse ++ .ref b :: rest) (hrest : (rest.map fun v => v.category).sum ≤ 8) (hp : pc + 3 = pc') (kk : GG p l e R s m args below meth c Q A nL (cells + rm.cells) (slots + rm.slots) (fun H => B' H ∧ F H) pc' lv rest) : GG p l e R s m args below meth c Q A nL cells slots B pc lv st0 := by
  subst hp
  intro H locs ls hl hB hS
  refine G_after hl hS hA (hBF H hB).2 (fun H1 h1 h2 h3 => hfr H H1 hB h1 h2 h3) (va_runI (As := As) (rest := rest) (nL := nL) (Ts := gw) (own := own) ⟨C.1, C.2.1, C.2.2.1, C.2.2.2.1, C.2.2.2.2.1⟩ hM (cwI n C.2.2.2.2.1 (wz_in hw.2.2.1) rfl rfl rfl (C.2.2.2.2.1 _ hw.2.2.2) (C.2.2.2.2.1 _ hw.1) (C.2.2.2.2.1 _ hw.2.1) hy1 hy hR.1) ⟨pc_blind, fun U hU hW => ⟨rfl, by rw [hU]; exact (hBF H hB).1, C.2.2.2.2.2.1.warm hW⟩⟩ rfl hn hl.1 hs0 (lv_room hrest) hd hR.2) rfl kk
/-- a private constructor of a nest mate -/
theorem G_callIN {y : MethodName} {bytes : ByteArray} {maxL n index b : Nat} {host : String} {rm : Room} {A1 : Nat → Prop} {As rest st0 : List Value} {B1 B' F : Heap → Prop} (C : Cx κ p s m args meth c cc nL own ret) (hd : decode cc pc = .ok (.invokespecial index, 3))
    (hM : MM κ l y bytes maxL none rm A1 (.ref b :: As) B1 none B') (hl1 : KN s → va_Nw (.methodLinkNest own index y host) s) (hw : Cond.instanceMethod y ∈ gw ∧ Cond.code y bytes maxL none ∈ gw ∧ Cond.initialized y.cls ∈ gw) (hy1 : y.name = "<init>") (hy : y.cls ≠ "java/lang/invoke/MethodHandle" ∧ y.cls ≠ "java/lang/invoke/VarHandle" ∧ (parseMethodDescriptor y.desc).map (fun d => d.parameters.length) = some n) (hn : As.length = n)
    (hR : (rm.frames + 1 ≤ R.frames ∧ 8 + (maxL + 11) + rm.locals ≤ R.locals) ∧ cells + rm.cells ≤ R.cells ∧ slots + rm.slots ≤ R.slots) (hA : ∀ q, A1 q → A q) (hBF : ∀ H, B H → B1 H ∧ F H) (hfr : ∀ H H1 : Heap, B H → H.size ≤ H1.size → (∀ q : Nat, q < H.size → ¬ A1 q → H1[q]? = H[q]?) → F H → F H1)
    (hs0 : st0 = As.reverse ++ .ref b :: rest) (hrest : (rest.map fun v => v.category).sum ≤ 8) (hp : pc + 3 = pc') (kk : GG p l e R s m args below meth c Q A nL (cells + rm.cells) (slots + rm.slots) (fun H => B' H ∧ F H) pc' lv rest) : GG p l e R s m args below meth c Q A nL cells slots B pc lv st0 := by
  subst hp
  intro H locs ls hl hB hS
  refine G_after hl hS hA (hBF H hB).2 (fun H1 h1 h2 h3 => hfr H H1 hB h1 h2 h3) (va_runIN (As := As) (rest := rest) (nL := nL) (Ts := gw) (own := own) ⟨C.1, C.2.1, C.2.2.1, C.2.2.2.1, C.2.2.2.2.1⟩ hM ⟨va_cnB n C.2.2.2.2.1 (wz_in hw.2.1) rfl rfl rfl (hl1 C.2.2.2.2.2.1.2) (C.2.2.2.2.1 _ hw.2.2) hy hR.1, hy1, C.2.2.2.2.1 _ hw.1⟩ ⟨pc_blind, fun U hU hW => ⟨rfl, by rw [hU]; exact (hBF H hB).1, C.2.2.2.2.2.1.warm hW⟩⟩ rfl hn hl.1 hs0 (lv_room hrest) hd hR.2) rfl kk
def aQ (n : Nat) (f : Nat → Option Nat) (i : Int32) : Option (Option Nat) := if ib i n = true then some (f i.toNatClampNeg) else none
theorem aQ_s {n : Nat} {f : Nat → Option Nat} {i : Int32} {v : Option Nat} (h : aQ n f i = some v) : vp_in i n ∧ f i.toNatClampNeg = v := by
  unfold aQ at h
  by_cases hi : ib i n = true
  · rw [if_pos hi] at h; exact ⟨ib_in hi, Option.some.inj h⟩
  · rw [if_neg hi] at h; cases h
def qc {α : Type} (r : Option Nat) (x : Option α) (f : Nat → Option α) : Option α := match r with
  | none => x
  | some y => f y
theorem z_qn {α : Type} {r : Option Nat} {x : Option α} {f : Nat → Option α} {b : α} (hc : r = none) (h : qc r x f = some b) : x = some b := by subst hc; exact h
theorem z_qs {α : Type} {r : Option Nat} {x : Option α} {f : Nat → Option α} {b : α} {y : Nat} (hc : r = some y) (h : qc r x f = some b) : f y = some b := by subst hc; exact h
theorem G_ialdV {a n : Nat} {f : Nat → Int32} {i : Int32} {v : Int32} (C : Cx κ p s m args meth c cc nL own ret) (hd : decode cc pc = .ok (.iaload, 1)) (hv : rdv κ B a (.inl (κ.2 0, n, .inl f))) (ha : aI n f i = some v) (hp : pc + 1 = pc') (kk : GG p l e R s m args below meth c Q A nL cells slots B pc' lv (.int v :: st)) : GG p l e R s m args below meth c Q A nL cells slots B pc lv (.int i :: .ref a :: st) := by
  obtain ⟨hi, rfl⟩ := aI_s ha
  exact G_iald C hd hv hi hp kk
theorem G_baldV {a n : Nat} {f : Nat → Int32} {i : Int32} {v : Int32} (C : Cx κ p s m args meth c cc nL own ret) (hd : decode cc pc = .ok (.baload, 1)) (hv : rdv κ B a (.inl (κ.2 2, n, .inl f))) (ha : aI n f i = some v) (hp : pc + 1 = pc') (kk : GG p l e R s m args below meth c Q A nL cells slots B pc' lv (.int v :: st)) : GG p l e R s m args below meth c Q A nL cells slots B pc lv (.int i :: .ref a :: st) := by
  obtain ⟨hi, rfl⟩ := aI_s ha
  exact G_bald C hd hv hi hp kk
theorem G_zaldV {a n : Nat} {f : Nat → Int32} {i : Int32} {v : Int32} (C : Cx κ p s m args meth c cc nL own ret) (hd : decode cc pc = .ok (.baload, 1)) (hv : rdv κ B a (.inl (κ.2 3, n, .inl f))) (ha : aI n f i = some v) (hp : pc + 1 = pc') (kk : GG p l e R s m args below meth c Q A nL cells slots B pc' lv (.int v :: st)) : GG p l e R s m args below meth c Q A nL cells slots B pc lv (.int i :: .ref a :: st) := by
  obtain ⟨hi, rfl⟩ := aI_s ha
  exact G_zald C hd hv hi hp kk
theorem G_laldV {a n : Nat} {f : Nat → Int64} {i : Int32} {v : Int64} (C : Cx κ p s m args meth c cc nL own ret) (hd : decode cc pc = .ok (.laload, 1)) (hv : rdv κ B a (.inl (κ.2 1, n, .inr (.inl f)))) (ha : aL n f i = some v) (hp : pc + 1 = pc') (kk : GG p l e R s m args below meth c Q A nL cells slots B pc' lv (.long v :: st)) : GG p l e R s m args below meth c Q A nL cells slots B pc lv (.int i :: .ref a :: st) := by
  obtain ⟨hi, rfl⟩ := aL_s ha
  exact G_lald C hd hv hi hp kk
theorem G_aald4V {a n : Nat} {f : Nat → Option Nat} {i : Int32} {v : Option Nat} (C : Cx κ p s m args meth c cc nL own ret) (hd : decode cc pc = .ok (.aaload, 1)) (hv : rdv κ B a (.inl (κ.2 4, n, .inr (.inr (.inr (.inr f)))))) (ha : aQ n f i = some v) (hp : pc + 1 = pc') (kk : GG p l e R s m args below meth c Q A nL cells slots B pc' lv (va_rf v :: st)) : GG p l e R s m args below meth c Q A nL cells slots B pc lv (.int i :: .ref a :: st) := by
  obtain ⟨hi, rfl⟩ := aQ_s ha
  exact G_aald4 C hd hv hi hp kk
theorem G_aald5V {a n : Nat} {f : Nat → Option Nat} {i : Int32} {v : Option Nat} (C : Cx κ p s m args meth c cc nL own ret) (hd : decode cc pc = .ok (.aaload, 1)) (hv : rdv κ B a (.inl (κ.2 5, n, .inr (.inr (.inr (.inr f)))))) (ha : aQ n f i = some v) (hp : pc + 1 = pc') (kk : GG p l e R s m args below meth c Q A nL cells slots B pc' lv (va_rf v :: st)) : GG p l e R s m args below meth c Q A nL cells slots B pc lv (.int i :: .ref a :: st) := by
  obtain ⟨hi, rfl⟩ := aQ_s ha
  exact G_aald5 C hd hv hi hp kk
theorem G_aast4 {a n w : Nat} {f : Nat → Option Nat} {i : Int32} {vs : List Value} {B' : Heap → Prop} (C : Cx κ p s m args meth c cc nL own ret) (hd : decode cc pc = .ok (.aastore, 1)) (hv : rdv κ B a (.inl (κ.2 4, n, .inr (.inr (.inr (.inr f)))))) (hx : rdv κ B w (.inr (7, vs))) (hi : vp_in i n) (hwr : wrv κ A B a (.inl (κ.2 4, n, .inr (.inr (.inr (.inr (va_up f i.toNatClampNeg (some w))))))) B') (hp : pc + 1 = pc') (kk : GG p l e R s m args below meth c Q A nL cells slots B' pc' lv st) : GG p l e R s m args below meth c Q A nL cells slots B pc lv (.ref w :: .int i :: .ref a :: st) := by
  subst hp
  intro H locs ls hl hB hS
  have hK := C.2.2.2.2.2.1.1
  have hlt : i.toNatClampNeg < n := Nat.not_le.mp fun q => hi (Or.inr q)
  have h0 : ¬ i < 0 := fun q => hi (Or.inl q)
  obtain ⟨r', hr', cellV, g1, g2, g3, -⟩ := hx H hB
  have hcls := (hK.1 7 _ rfl).2
  obtain ⟨kA, comp, k1, k2, k3, -⟩ := (hK.2 4 _ rfl).2
  have hcomp : comp = κ.1.1 7 := Option.some.inj (k3.symm.trans hcls.1)
  subst hcomp
  obtain ⟨kC, hkC, -⟩ := id hcls.2
  refine W.aast C.1 C.2.1 (hv H hB) (fun q h => by cases h) (fun h => by cases h) k1 k2 rfl hkC ⟨h0, by show _ < (arrV _ _ _).slots.size; rw [arrV_size]; exact hlt⟩ g1 (fun q h => by rw [g3] at h; cases h) (by rw [g2]; exact hkC) (by rw [g2]; exact va_assign hcls) rfl rfl hd fun H1 e1 z oq => ?_
  exact kk H1 _ ls hl (hwr.2 H H1 hB oq z (by show H1[a]? = some (vp_cell _ _); rw [e1]; exact congrArg some (ce_q _ _ _ _ (some w)))) (hS.put z oq hwr.1)
theorem G_aast4N {a n : Nat} {f : Nat → Option Nat} {i : Int32} {B' : Heap → Prop} (C : Cx κ p s m args meth c cc nL own ret) (hd : decode cc pc = .ok (.aastore, 1)) (hv : rdv κ B a (.inl (κ.2 4, n, .inr (.inr (.inr (.inr f)))))) (hi : vp_in i n) (hwr : wrv κ A B a (.inl (κ.2 4, n, .inr (.inr (.inr (.inr (va_up f i.toNatClampNeg none)))))) B') (hp : pc + 1 = pc') (kk : GG p l e R s m args below meth c Q A nL cells slots B' pc' lv st) : GG p l e R s m args below meth c Q A nL cells slots B pc lv (.null :: .int i :: .ref a :: st) := by
  subst hp
  intro H locs ls hl hB hS
  have hK := C.2.2.2.2.2.1.1
  refine va_WaastN (C := RX7) C.1 C.2.1 (hv H hB) ((hK.2 4 _ rfl).1 n (fun j => va_rf (f j))) (fun h => by cases h) (by show ¬ (i < 0 ∨ (arrV _ _ _).slots.size ≤ _); rw [arrV_size]; exact hi) rfl rfl hd fun H1 e1 z oq => ?_
  exact kk H1 _ ls hl (hwr.2 H H1 hB oq z (by show H1[a]? = some (vp_cell _ _); rw [e1]; exact congrArg some (ce_q _ _ _ _ none))) (hS.put z oq hwr.1)
theorem G_aast5 {a n w : Nat} {f : Nat → Option Nat} {i : Int32} {vs : List Value} {B' : Heap → Prop} (C : Cx κ p s m args meth c cc nL own ret) (hd : decode cc pc = .ok (.aastore, 1)) (hv : rdv κ B a (.inl (κ.2 5, n, .inr (.inr (.inr (.inr f)))))) (hx : rdv κ B w (.inr (8, vs))) (hi : vp_in i n) (hwr : wrv κ A B a (.inl (κ.2 5, n, .inr (.inr (.inr (.inr (va_up f i.toNatClampNeg (some w))))))) B') (hp : pc + 1 = pc') (kk : GG p l e R s m args below meth c Q A nL cells slots B' pc' lv st) : GG p l e R s m args below meth c Q A nL cells slots B pc lv (.ref w :: .int i :: .ref a :: st) := by
  subst hp
  intro H locs ls hl hB hS
  have hK := C.2.2.2.2.2.1.1
  have hlt : i.toNatClampNeg < n := Nat.not_le.mp fun q => hi (Or.inr q)
  have h0 : ¬ i < 0 := fun q => hi (Or.inl q)
  obtain ⟨r', hr', cellV, g1, g2, g3, -⟩ := hx H hB
  have hcls := (hK.1 8 _ rfl).2
  obtain ⟨kA, comp, k1, k2, k3, -⟩ := (hK.2 5 _ rfl).2
  have hcomp : comp = κ.1.1 8 := Option.some.inj (k3.symm.trans hcls.1)
  subst hcomp
  obtain ⟨kC, hkC, -⟩ := id hcls.2
  refine W.aast C.1 C.2.1 (hv H hB) (fun q h => by cases h) (fun h => by cases h) k1 k2 rfl hkC ⟨h0, by show _ < (arrV _ _ _).slots.size; rw [arrV_size]; exact hlt⟩ g1 (fun q h => by rw [g3] at h; cases h) (by rw [g2]; exact hkC) (by rw [g2]; exact va_assign hcls) rfl rfl hd fun H1 e1 z oq => ?_
  exact kk H1 _ ls hl (hwr.2 H H1 hB oq z (by show H1[a]? = some (vp_cell _ _); rw [e1]; exact congrArg some (ce_q _ _ _ _ (some w)))) (hS.put z oq hwr.1)
theorem G_aast5N {a n : Nat} {f : Nat → Option Nat} {i : Int32} {B' : Heap → Prop} (C : Cx κ p s m args meth c cc nL own ret) (hd : decode cc pc = .ok (.aastore, 1)) (hv : rdv κ B a (.inl (κ.2 5, n, .inr (.inr (.inr (.inr f)))))) (hi : vp_in i n) (hwr : wrv κ A B a (.inl (κ.2 5, n, .inr (.inr (.inr (.inr (va_up f i.toNatClampNeg none)))))) B') (hp : pc + 1 = pc') (kk : GG p l e R s m args below meth c Q A nL cells slots B' pc' lv st) : GG p l e R s m args below meth c Q A nL cells slots B pc lv (.null :: .int i :: .ref a :: st) := by
  subst hp
  intro H locs ls hl hB hS
  have hK := C.2.2.2.2.2.1.1
  refine va_WaastN (C := RX8) C.1 C.2.1 (hv H hB) ((hK.2 5 _ rfl).1 n (fun j => va_rf (f j))) (fun h => by cases h) (by show ¬ (i < 0 ∨ (arrV _ _ _).slots.size ≤ _); rw [arrV_size]; exact hi) rfl rfl hd fun H1 e1 z oq => ?_
  exact kk H1 _ ls hl (hwr.2 H H1 hB oq z (by show H1[a]? = some (vp_cell _ _); rw [e1]; exact congrArg some (ce_q _ _ _ _ none))) (hS.put z oq hwr.1)
end NROWS
/-! ===== the class's world: fixed cells at o .. o + 31; tasks, sheets and their rows in a pool from o + 64 on ===== -/
abbrev PE : Type := (Int32 × Int32 × Int32 × Option Nat) ⊕ (Nat × (Nat → Int32)) ⊕ (Int32 × Option Nat) ⊕ (Nat × (Nat → Int64))
abbrev CS : Type := (Nat → Int32) × (Nat → Nat → Int32) × (Nat → Nat → Option Nat) × (Nat → Option Nat) × (Nat → Option PE) × Nat
abbrev cpl (c : CS) : Nat → Option PE := c.2.2.2.2.1
abbrev cn (c : CS) : Nat := c.2.2.2.2.2
def pe (κ : KK) (x : PE) : va_E := match x with
  | .inl t => .inr (8, [.int t.1, .int t.2.1, .int t.2.2.1, va_rf t.2.2.2])
  | .inr (.inl b) => .inl (κ.2 2, b.1, .inl b.2)
  | .inr (.inr (.inl t)) => .inr (7, [.int t.1, va_rf t.2])
  | .inr (.inr (.inr b)) => .inl (κ.2 1, b.1, .inr (.inl b.2))
def cfx (κ : KK) (o : Nat) (c : CS) : List va_E := [.inr (9, [.ref (o + 1), .ref (o + 2), .ref (o + 3), .ref (o + 4), .ref (o + 5), .ref (o + 8), .ref (o + 12), .ref (o + 16), .ref (o + 20), .ref (o + 22), .ref (o + 26), .ref (o + 28), .int (c.1 0), .int (c.1 1), .int (c.1 2), .int (c.1 3)]), .inl (κ.2 4, 6, .inr (.inr (.inr (.inr (c.2.2.1 0))))), .inl (κ.2 5, 8, .inr (.inr (.inr (.inr (c.2.2.1 1))))), .inl (κ.2 5, 8, .inr (.inr (.inr (.inr (c.2.2.1 2))))), .inl (κ.2 0, 100, .inl (c.2.1 0)), .inr (1, [.ref (o + 6), .ref (o + 7), va_rf (c.2.2.2.1 0), .int (c.1 4), .int (c.1 5)]), .inl (κ.2 2, 6561, .inl (c.2.1 1)), .inl (κ.2 0, 6561, .inl (c.2.1 2)), .inr (5, [.ref (o + 9), .ref (o + 10), .ref (o + 11), .int (c.1 6)]), .inl (κ.2 0, 511, .inl (c.2.1 3)), .inl (κ.2 0, 511, .inl (c.2.1 4)), .inl (κ.2 0, 511, .inl (c.2.1 5)), .inr (5, [.ref (o + 13), .ref (o + 14), .ref (o + 15), .int (c.1 7)]), .inl (κ.2 0, 100, .inl (c.2.1 6)), .inl (κ.2 0, 100, .inl (c.2.1 7)), .inl (κ.2 0, 100, .inl (c.2.1 8)), .inr (0, [.ref (o + 17), .ref (o + 18), .ref (o + 19), .int (c.1 8)]), .inl (κ.2 3, 256, .inl (c.2.1 9)), .inl (κ.2 0, 256, .inl (c.2.1 10)), .inl (κ.2 0, 256, .inl (c.2.1 11)), .inr (6, [.ref (o + 21)]), .inl (κ.2 0, 256, .inl (c.2.1 12)), .inr (2, [.ref (o + 23), .int (c.1 9), .ref (o + 24), .ref (o + 25), .int (c.1 10)]), .inl (κ.2 0, 16, .inl (c.2.1 13)), .inl (κ.2 0, 81, .inl (c.2.1 14)), .inl (κ.2 0, 81, .inl (c.2.1 15)), .inr (4, [.ref (o + 27), .int (c.1 11)]), .inl (κ.2 0, 256, .inl (c.2.1 16)), .inr (3, [.ref (o + 29), .int (c.1 12), .int (c.1 13), .int (c.1 14)]), .inr (1, [.ref (o + 30), .ref (o + 31), va_rf (c.2.2.2.1 1), .int (c.1 15), .int (c.1 16)]), .inl (κ.2 2, 6561, .inl (c.2.1 17)), .inl (κ.2 0, 6561, .inl (c.2.1 18))]
def CB (κ : KK) (o : Nat) (c : CS) (H : Heap) : Prop := (∀ (k : Nat) (q : va_E), (cfx κ o c)[k]? = some q → va_at κ.1 vwCl (o + k, q) H) ∧ (∀ (q : Nat) (x : PE), cpl c q = some x → o + 64 ≤ q ∧ va_at κ.1 vwCl (q, pe κ x) H) ∧ H.size = cn c ∧ o + 64 ≤ cn c
def CA (o : Nat) : Nat → Prop := fun q => (o ≤ q ∧ q < o + 32) ∨ o + 64 ≤ q
theorem CB_rd {κ : KK} {o : Nat} {c : CS} (k : Nat) {q : va_E} (h : (cfx κ o c)[k]? = some q) : rdv κ (CB κ o c) (o + k) q := fun _ hB => hB.1 k q h
theorem CB_prd {κ : KK} {o : Nat} {c : CS} {q : Nat} {x : PE} (h : cpl c q = some x) : rdv κ (CB κ o c) q (pe κ x) := fun _ hB => (hB.2.1 q x h).2
theorem CB_wr {κ : KK} {o : Nat} {c : CS} (c' : CS) (k : Nat) {q : va_E} (hk : k < 32) (h : (cfx κ o c).set k q = cfx κ o c') (hr : c'.2.2.2.2 = c.2.2.2.2) : wrv κ (CA o) (CB κ o c) (o + k) q (CB κ o c') := by
  refine ⟨Or.inl ⟨by omega, by omega⟩, fun H H1 hB hne hsz hat => ⟨fun j q' hj => ?_, fun w x hx => ?_, ?_, ?_⟩⟩
  · rw [← h] at hj
    by_cases hjk : j = k
    · subst hjk
      have hlt : j < (cfx κ o c).length := hk
      rw [List.getElem?_set_self hlt] at hj
      cases hj
      exact hat
    · rw [List.getElem?_set_ne (Ne.symm hjk)] at hj
      exact (hB.1 j q' hj).kept (hne _ (by show o + j ≠ o + k; omega))
  · have hx' : cpl c w = some x := by show c.2.2.2.2.1 w = some x; rw [← hr]; exact hx
    obtain ⟨h1, h2⟩ := hB.2.1 w x hx'
    exact ⟨h1, h2.kept (hne _ (by show w ≠ o + k; omega))⟩
  · rw [hsz, hB.2.2.1]; show c.2.2.2.2.2 = c'.2.2.2.2.2; rw [hr]
  · show o + 64 ≤ c'.2.2.2.2.2; rw [hr]; exact hB.2.2.2
def cD (c : CS) (q : Nat) (x : PE) : CS := (c.1, c.2.1, c.2.2.1, c.2.2.2.1, (fun j => if j = q then some x else cpl c j), cn c)
def cNw (c : CS) (x : PE) : CS := (c.1, c.2.1, c.2.2.1, c.2.2.2.1, (fun j => if j = cn c then some x else cpl c j), cn c + 1)
theorem cfx_D {κ : KK} {o : Nat} {c : CS} {q : Nat} {x : PE} : cfx κ o (cD c q x) = cfx κ o c := rfl
theorem cfx_N {κ : KK} {o : Nat} {c : CS} {x : PE} : cfx κ o (cNw c x) = cfx κ o c := rfl
theorem cfx_len {κ : KK} {o : Nat} {c : CS} : (cfx κ o c).length = 32 := rfl
theorem CB_pwr {κ : KK} {o : Nat} {c : CS} {q : Nat} {x0 : PE} (x : PE) (h : cpl c q = some x0) (ho : o + 64 ≤ q) : wrv κ (CA o) (CB κ o c) q (pe κ x) (CB κ o (cD c q x)) := by
  refine ⟨Or.inr ho, fun H H1 hB hne hsz hat => ⟨fun j q' hj => ?_, fun w y hy => ?_, ?_, hB.2.2.2⟩⟩
  · rw [cfx_D] at hj
    have hlt : j < 32 := by rw [← cfx_len (κ := κ) (o := o) (c := c)]; exact (List.getElem?_eq_some_iff.mp hj).1
    exact (hB.1 j q' hj).kept (hne _ (by show o + j ≠ q; omega))
  · have hy' : (if w = q then some x else cpl c w) = some y := hy
    by_cases hw : w = q
    · rw [if_pos hw] at hy'
      cases hy'
      subst hw
      exact ⟨ho, hat⟩
    · rw [if_neg hw] at hy'
      obtain ⟨h1, h2⟩ := hB.2.1 w y hy'
      exact ⟨h1, h2.kept (hne _ hw)⟩
  · rw [hsz]; exact hB.2.2.1
theorem CB_new {κ : KK} {o : Nat} {c : CS} (x : PE) (ho : o + 64 ≤ cn c) : nwv κ (CA o) (CB κ o c) (cn c) (pe κ x) (CB κ o (cNw c x)) := by
  refine ⟨Or.inr ho, fun H hB => hB.2.2.1, fun H H1 hB hk hsz hat => ⟨fun j q' hj => ?_, fun w y hy => ?_, hsz, ?_⟩⟩
  · rw [cfx_N] at hj
    have hlt : j < 32 := by rw [← cfx_len (κ := κ) (o := o) (c := c)]; exact (List.getElem?_eq_some_iff.mp hj).1
    exact (hB.1 j q' hj).kept (hk _ (by show o + j < cn c; omega))
  · have hy' : (if w = cn c then some x else cpl c w) = some y := hy
    by_cases hw : w = cn c
    · rw [if_pos hw] at hy'
      cases hy'
      subst hw
      exact ⟨ho, hat⟩
    · rw [if_neg hw] at hy'
      obtain ⟨h1, h2⟩ := hB.2.1 w y hy'
      have h3 := h2.lt
      have h4 := hB.2.2.1
      exact ⟨h1, h2.kept (hk _ (by rw [← h4]; exact h3))⟩
  · show o + 64 ≤ cn c + 1
    omega
/-! pure words -/
def cI (c : CS) (k : Nat) (x : Int32) : CS := (upd c.1 k x, c.2)
def cW (c : CS) (k : Nat) (x : Option Nat) : CS := (c.1, c.2.1, c.2.2.1, va_up c.2.2.2.1 k x, c.2.2.2.2)
def cAr (c : CS) (k i : Nat) (x : Int32) : CS := (c.1, (fun j => if j = k then upd (c.2.1 k) i x else c.2.1 j), c.2.2)
def cQ (c : CS) (k i : Nat) (x : Option Nat) : CS := (c.1, c.2.1, (fun j => if j = k then va_up (c.2.2.1 k) i x else c.2.2.1 j), c.2.2.2)
def csA (c : CS) (k n : Nat) (i x : Int32) : Option CS := if ib i n = true then some (cAr c k i.toNatClampNeg x) else none
theorem csA_s {c c' : CS} {k n : Nat} {i x : Int32} (h : csA c k n i x = some c') : vp_in i n ∧ cAr c k i.toNatClampNeg x = c' := by
  unfold csA at h
  by_cases hi : ib i n = true
  · rw [if_pos hi] at h; exact ⟨ib_in hi, Option.some.inj h⟩
  · rw [if_neg hi] at h; cases h
def dT (c : CS) (q : Nat) : Option (Int32 × Int32 × Int32 × Option Nat) := match cpl c q with
  | some (.inl t) => some t
  | _ => none
def dB (c : CS) (q : Nat) : Option (Nat × (Nat → Int32)) := match cpl c q with
  | some (.inr (.inl t)) => some t
  | _ => none
def dS (c : CS) (q : Nat) : Option (Int32 × Option Nat) := match cpl c q with
  | some (.inr (.inr (.inl t))) => some t
  | _ => none
def dL (c : CS) (q : Nat) : Option (Nat × (Nat → Int64)) := match cpl c q with
  | some (.inr (.inr (.inr t))) => some t
  | _ => none
theorem dT_s {c : CS} {q : Nat} {t : Int32 × Int32 × Int32 × Option Nat} (h : dT c q = some t) : cpl c q = some (.inl t) := by
  unfold dT at h
  split at h
  · cases h; assumption
  · cases h
theorem dB_s {c : CS} {q : Nat} {t : Nat × (Nat → Int32)} (h : dB c q = some t) : cpl c q = some (.inr (.inl t)) := by
  unfold dB at h
  split at h
  · cases h; assumption
  · cases h
theorem dS_s {c : CS} {q : Nat} {t : Int32 × Option Nat} (h : dS c q = some t) : cpl c q = some (.inr (.inr (.inl t))) := by
  unfold dS at h
  split at h
  · cases h; assumption
  · cases h
theorem dL_s {c : CS} {q : Nat} {t : Nat × (Nat → Int64)} (h : dL c q = some t) : cpl c q = some (.inr (.inr (.inr t))) := by
  unfold dL at h
  split at h
  · cases h; assumption
  · cases h
def rdB (c : CS) (q : Nat) (i : Int32) : Option Int32 := (dB c q).bind fun b => aI b.1 b.2 i
def rdL (c : CS) (q : Nat) (i : Int32) : Option Int64 := (dL c q).bind fun b => aL b.1 b.2 i
def lnB (c : CS) (q : Nat) : Option Int32 := (dB c q).bind fun b => some (nI b.1)
def lnL (c : CS) (q : Nat) : Option Int32 := (dL c q).bind fun b => some (nI b.1)
def stB (o : Nat) (c : CS) (q : Nat) (i x : Int32) : Option CS := (dB c q).bind fun b => if ib i b.1 = true ∧ o + 64 ≤ q then some (cD c q (.inr (.inl (b.1, upd b.2 i.toNatClampNeg x.toInt8.toInt32)))) else none
def stL (o : Nat) (c : CS) (q : Nat) (i : Int32) (x : Int64) : Option CS := (dL c q).bind fun b => if ib i b.1 = true ∧ o + 64 ≤ q then some (cD c q (.inr (.inr (.inr (b.1, vp_updL b.2 i.toNatClampNeg x))))) else none
def stT (o : Nat) (c : CS) (q k : Nat) (x : Int32) : Option CS := (dT c q).bind fun t => if o + 64 ≤ q then some (cD c q (.inl (if k = 0 then x else t.1, if k = 1 then x else t.2.1, if k = 2 then x else t.2.2.1, t.2.2.2))) else none
def stTs (o : Nat) (c : CS) (q : Nat) (x : Nat) : Option CS := (dT c q).bind fun t => if o + 64 ≤ q then some (cD c q (.inl (t.1, t.2.1, t.2.2.1, some x))) else none
def stS (o : Nat) (c : CS) (q : Nat) (x : Int32) : Option CS := (dS c q).bind fun t => if o + 64 ≤ q then some (cD c q (.inr (.inr (.inl (x, t.2))))) else none
def stSs (o : Nat) (c : CS) (q : Nat) (x : Nat) : Option CS := (dS c q).bind fun t => if o + 64 ≤ q then some (cD c q (.inr (.inr (.inl (t.1, some x))))) else none
def lok (x : Int32) : Bool := decide (0 ≤ x.toInt ∧ x.toInt ≤ 256)
def alT (o : Nat) (c : CS) : Option (Nat × CS) := if o + 64 ≤ cn c then some (cn c, cNw c (.inl (0, 0, 0, none))) else none
def alS (o : Nat) (c : CS) : Option (Nat × CS) := if o + 64 ≤ cn c then some (cn c, cNw c (.inr (.inr (.inl (0, none))))) else none
def alB (o : Nat) (c : CS) (x : Int32) : Option (Nat × CS) := if o + 64 ≤ cn c ∧ lok x = true then some (cn c, cNw c (.inr (.inl (x.toNatClampNeg, fun _ => 0)))) else none
def alL (o : Nat) (c : CS) (x : Int32) : Option (Nat × CS) := if o + 64 ≤ cn c ∧ lok x = true then some (cn c, cNw c (.inr (.inr (.inr (x.toNatClampNeg, fun _ => 0))))) else none
def alC (o : Nat) (c : CS) (q : Nat) : Option (Nat × CS) := (dB c q).bind fun b => if o + 64 ≤ cn c ∧ b.1 ≤ 256 ∧ ∀ j, j < b.1 → fits .byte (.int (b.2 j)) = true then some (cn c, cNw c (.inr (.inl b))) else none
theorem lok_s {x : Int32} (h : lok x = true) : ¬ x < 0 ∧ x.toNatClampNeg ≤ 256 := by
  have h1 := of_decide_eq_true h
  refine ⟨fun q => ?_, ?_⟩
  · have := Int32.lt_iff_toInt_lt.mp q
    simp at this
    omega
  · show x.toInt.toNat ≤ 256
    omega
