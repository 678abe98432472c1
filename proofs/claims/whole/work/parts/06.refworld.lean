/-! ===== pure words of the printed methods: guarded reads and writes, loops ===== -/
def ib (i : Int32) (n : Nat) : Bool := decide (0 ≤ i.toInt ∧ i.toInt < (n : Int))
theorem ib_in {i : Int32} {n : Nat} (h : ib i n = true) : vp_in i n := vp_in_iff.mpr (of_decide_eq_true h)
def aI (n : Nat) (f : Nat → Int32) (i : Int32) : Option Int32 := if ib i n = true then some (f i.toNatClampNeg) else none
def aL (n : Nat) (f : Nat → Int64) (i : Int32) : Option Int64 := if ib i n = true then some (f i.toNatClampNeg) else none
theorem aI_s {n : Nat} {f : Nat → Int32} {i v : Int32} (h : aI n f i = some v) : vp_in i n ∧ f i.toNatClampNeg = v := by
  unfold aI at h
  by_cases hi : ib i n = true
  · rw [if_pos hi] at h; exact ⟨ib_in hi, Option.some.inj h⟩
  · rw [if_neg hi] at h; cases h
theorem aL_s {n : Nat} {f : Nat → Int64} {i : Int32} {v : Int64} (h : aL n f i = some v) : vp_in i n ∧ f i.toNatClampNeg = v := by
  unfold aL at h
  by_cases hi : ib i n = true
  · rw [if_pos hi] at h; exact ⟨ib_in hi, Option.some.inj h⟩
  · rw [if_neg hi] at h; cases h
def dvI (x y : Int32) : Option Int32 := if y = 0 then none else some (x / y)
def rmI (x y : Int32) : Option Int32 := if y = 0 then none else some (x - x / y * y)
theorem dvI_s {x y v : Int32} (h : dvI x y = some v) : ¬ y = 0 ∧ x / y = v := by
  unfold dvI at h
  by_cases hi : y = 0
  · rw [if_pos hi] at h; cases h
  · rw [if_neg hi] at h; exact ⟨hi, Option.some.inj h⟩
theorem rmI_s {x y v : Int32} (h : rmI x y = some v) : ¬ y = 0 ∧ x - x / y * y = v := by
  unfold rmI at h
  by_cases hi : y = 0
  · rw [if_pos hi] at h; cases h
  · rw [if_neg hi] at h; exact ⟨hi, Option.some.inj h⟩
/-- an int that a boolean can be -/
def zI (x : Int32) : Option Int32 := if x = 0 ∨ x = 1 then some x else none
theorem zI_s {x v : Int32} (h : zI x = some v) : x = v ∧ narrow .boolean (.int v) = .int v ∧ fits .boolean (.int v) = true := by
  unfold zI at h
  by_cases hi : x = 0 ∨ x = 1
  · rw [if_pos hi] at h
    obtain rfl := Option.some.inj h
    rcases hi with rfl | rfl
    · exact ⟨rfl, rfl, rfl⟩
    · exact ⟨rfl, rfl, rfl⟩
  · rw [if_neg hi] at h; cases h
theorem ob {α β : Type} {x : Option α} {k : α → Option β} {b : β} (h : x.bind k = some b) : ∃ a, x = some a ∧ k a = some b := Option.bind_eq_some_iff.mp h
theorem z_pr {α β : Type} {a v : α} {b r : β} (h : some (a, b) = some (v, r)) : a = v ∧ b = r := Prod.mk.inj (Option.some.inj h)
def lpN {S E : Type} (body : S → Option (S ⊕ E)) : Nat → S → Option E
  | 0, _ => none
  | n + 1, s => match body s with
    | none => none
    | some (.inl s') => lpN body n s'
    | some (.inr e) => some e
theorem lpN_ind {S E : Type} {body : S → Option (S ⊕ E)} {P : S → Prop} {X : E → Prop} (hs : ∀ s y, body s = some y → (∀ s', y = .inl s' → P s') → (∀ e', y = .inr e' → X e') → P s) : ∀ (n : Nat) (s : S) (e : E), lpN body n s = some e → X e → P s := by
  intro n
  induction n with
  | zero => intro s e h; cases h
  | succ n ih =>
    intro s e h hX
    unfold lpN at h
    cases hb : body s with
    | none => rw [hb] at h; cases h
    | some y =>
      rw [hb] at h
      cases y with
      | inl s1 => exact hs s _ hb (fun s' q => by cases q; exact ih s1 e h hX) (fun e' q => by cases q)
      | inr e1 => exact hs s _ hb (fun s' q => by cases q) (fun e' q => by cases q; cases h; exact hX)
def bigN : Nat := 1000000000
/-! ===== the reference's world ===== -/
abbrev RS : Type := (Nat → Int32) × (Nat → Nat → Int32) × (Nat → Nat → Int64)
def rfs (o : Nat) (r : RS) : List Value := [.ref (o + 1), .ref (o + 2), .ref (o + 3), .ref (o + 4), .int (r.1 0), .ref (o + 5), .ref (o + 6), .ref (o + 7), .int (r.1 1), .ref (o + 8), .int (r.1 2), .int (r.1 3), .int (r.1 4), .ref (o + 9), .ref (o + 10), .ref (o + 11), .ref (o + 12), .ref (o + 13), .ref (o + 14), .ref (o + 15), .ref (o + 16), .int (r.1 5), .ref (o + 17), .ref (o + 18), .ref (o + 19), .ref (o + 20), .ref (o + 21), .ref (o + 22), .ref (o + 23), .ref (o + 24), .ref (o + 25), .int (r.1 6), .ref (o + 26), .int (r.1 7), .ref (o + 27), .ref (o + 28), .ref (o + 29), .int (r.1 8), .int (r.1 9), .ref (o + 30), .ref (o + 31)]
def rfx (κ : KK) (o : Nat) (r : RS) : List va_E := [.inr (10, rfs o r), .inl (κ.2 0, 16, .inl (r.2.1 0)), .inl (κ.2 0, 16, .inl (r.2.1 1)), .inl (κ.2 0, 16, .inl (r.2.1 2)), .inl (κ.2 0, 4096, .inl (r.2.1 3)), .inl (κ.2 0, 6, .inl (r.2.1 4)), .inl (κ.2 0, 6, .inl (r.2.1 5)), .inl (κ.2 1, 1536, .inr (.inl (r.2.2 6))), .inl (κ.2 0, 100, .inl (r.2.1 7)), .inl (κ.2 1, 256, .inr (.inl (r.2.2 8))), .inl (κ.2 0, 256, .inl (r.2.1 9)), .inl (κ.2 0, 101, .inl (r.2.1 10)), .inl (κ.2 0, 9, .inl (r.2.1 11)), .inl (κ.2 0, 6561, .inl (r.2.1 12)), .inl (κ.2 0, 6561, .inl (r.2.1 13)), .inl (κ.2 0, 6561, .inl (r.2.1 14)), .inl (κ.2 0, 6561, .inl (r.2.1 15)), .inl (κ.2 0, 512, .inl (r.2.1 16)), .inl (κ.2 0, 512, .inl (r.2.1 17)), .inl (κ.2 0, 512, .inl (r.2.1 18)), .inl (κ.2 0, 512, .inl (r.2.1 19)), .inl (κ.2 0, 40, .inl (r.2.1 20)), .inl (κ.2 0, 40, .inl (r.2.1 21)), .inl (κ.2 0, 40, .inl (r.2.1 22)), .inl (κ.2 0, 40, .inl (r.2.1 23)), .inl (κ.2 0, 256, .inl (r.2.1 24)), .inl (κ.2 0, 65536, .inl (r.2.1 25)), .inl (κ.2 0, 16, .inl (r.2.1 26)), .inl (κ.2 0, 81, .inl (r.2.1 27)), .inl (κ.2 0, 256, .inl (r.2.1 28)), .inl (κ.2 0, 6561, .inl (r.2.1 29)), .inl (κ.2 0, 6561, .inl (r.2.1 30))]
def RB (κ : KK) (o : Nat) (r : RS) (H : Heap) : Prop := ∀ (k : Nat) (q : va_E), (rfx κ o r)[k]? = some q → va_at κ.1 vwCl (o + k, q) H
def RA (o : Nat) : Nat → Prop := fun q => o ≤ q ∧ q < o + 32
theorem RB_rd {κ : KK} {o : Nat} {r : RS} (k : Nat) {q : va_E} (h : (rfx κ o r)[k]? = some q) : rdv κ (RB κ o r) (o + k) q := fun _ hB => hB k q h
theorem RB_wr {κ : KK} {o : Nat} {r r' : RS} (k : Nat) {q : va_E} (hk : k < 32) (h : (rfx κ o r).set k q = rfx κ o r') : wrv κ (RA o) (RB κ o r) (o + k) q (RB κ o r') := by
  refine ⟨⟨by omega, by omega⟩, fun H H1 hB hne hsz hat j q' hj => ?_⟩
  rw [← h] at hj
  by_cases hjk : j = k
  · subst hjk
    have hlt : j < (rfx κ o r).length := hk
    rw [List.getElem?_set_self hlt] at hj
    cases hj
    exact hat
  · rw [List.getElem?_set_ne (Ne.symm hjk)] at hj
    exact (hB j q' hj).kept (hne _ (by show o + j ≠ o + k; omega))
def rI (r : RS) (k : Nat) (x : Int32) : RS := (upd r.1 k x, r.2)
def rA (r : RS) (k i : Nat) (x : Int32) : RS := (r.1, (fun j => if j = k then upd (r.2.1 k) i x else r.2.1 j), r.2.2)
def rL (r : RS) (k i : Nat) (x : Int64) : RS := (r.1, r.2.1, fun j => if j = k then vp_updL (r.2.2 k) i x else r.2.2 j)
def sA (r : RS) (k n : Nat) (i x : Int32) : Option RS := if ib i n = true then some (rA r k i.toNatClampNeg x) else none
def sL (r : RS) (k n : Nat) (i : Int32) (x : Int64) : Option RS := if ib i n = true then some (rL r k i.toNatClampNeg x) else none
theorem sA_s {r r' : RS} {k n : Nat} {i x : Int32} (h : sA r k n i x = some r') : vp_in i n ∧ rA r k i.toNatClampNeg x = r' := by
  unfold sA at h
  by_cases hi : ib i n = true
  · rw [if_pos hi] at h; exact ⟨ib_in hi, Option.some.inj h⟩
  · rw [if_neg hi] at h; cases h
theorem sL_s {r r' : RS} {k n : Nat} {i : Int32} {x : Int64} (h : sL r k n i x = some r') : vp_in i n ∧ rL r k i.toNatClampNeg x = r' := by
  unfold sL at h
  by_cases hi : ib i n = true
  · rw [if_pos hi] at h; exact ⟨ib_in hi, Option.some.inj h⟩
  · rw [if_neg hi] at h; cases h
section RROWS
variable {κ : KK} {p : Program} {l : Launch} {e : Env} {R : Room} {s : State} {m : MethodId} {args : Array Value} {below : List Frame} {meth : Method} {c : Code} {Q : State → Prop} {A : Nat → Prop} {nL cells slots : Nat} {B : Heap → Prop} {pc pc' : Nat} {lv : List (Nat × Value)} {st : List Value} {cc : ByteArray} {own : String} {ret : Option FieldType} {o : Nat} {r : RS}
/-- a call within one world -/
theorem G_cV {y : MethodName} {bytes : ByteArray} {maxL n index ci b N : Nat} {T : u_T} {ty : Nat → FieldType} {CN : String} {ret' : Option FieldType} {rm : Room} {As fs rest st0 st' : List Value} {v' : Option Value} {B' : Heap → Prop} (C : Cx κ p s m args meth c cc nL own ret) (hd : decode cc pc = .ok (.invokevirtual index, 3))
    (hM : MM κ l y bytes maxL ret' rm A (.ref b :: As) B v' B') (hw : GoodIn gw (wsV own index CN y (wz y bytes maxL ret'))) (hy : y.cls = CN ∧ y.cls ≠ "java/lang/invoke/MethodHandle" ∧ y.cls ≠ "java/lang/invoke/VarHandle" ∧ (parseMethodDescriptor y.desc).map (fun d => d.parameters.length) = some n) (hn : As.length = n) (hF : FI ci CN T N ty) (hv : rdv κ B b (.inr (ci, fs)))
    (hR : (rm.frames + 1 ≤ R.frames ∧ 8 + (maxL + 11) + rm.locals ≤ R.locals) ∧ cells + rm.cells ≤ R.cells ∧ slots + rm.slots ≤ R.slots) (hs0 : st0 = As.reverse ++ .ref b :: rest) (hrest : (rest.map fun v => v.category).sum ≤ 8) (hst : v'.toList ++ rest = st') (hp : pc + 3 = pc') (kk : GG p l e R s m args below meth c Q A nL (cells + rm.cells) (slots + rm.slots) B' pc' lv st') : GG p l e R s m args below meth c Q A nL cells slots B pc lv st0 :=
  G_callV (F := fun _ => True) C hd hM hw hy hn hF hv hR (fun _ h => h) (fun _ h => ⟨h, trivial⟩) (fun _ _ _ _ _ _ => trivial) hs0 hrest hst hp (G_world (fun _ h => h.1) kk)
theorem G_cS {y : MethodName} {bytes : ByteArray} {maxL n index : Nat} {ret' : Option FieldType} {rm : Room} {As rest st0 st' : List Value} {v' : Option Value} {B' : Heap → Prop} (C : Cx κ p s m args meth c cc nL own ret) (hd : decode cc pc = .ok (.invokestatic index, 3))
    (hM : MM κ l y bytes maxL ret' rm A As B v' B') (hw : Cond.methodLink own index y ∈ gw ∧ Cond.static y ∈ gw ∧ Cond.code y bytes maxL ret' ∈ gw ∧ Cond.initialized y.cls ∈ gw) (hy : y.cls ≠ "java/lang/invoke/MethodHandle" ∧ y.cls ≠ "java/lang/invoke/VarHandle" ∧ (parseMethodDescriptor y.desc).map (fun d => d.parameters.length) = some n) (hn : As.length = n)
    (hR : (rm.frames + 1 ≤ R.frames ∧ 8 + (maxL + 11) + rm.locals ≤ R.locals) ∧ cells + rm.cells ≤ R.cells ∧ slots + rm.slots ≤ R.slots) (hs0 : st0 = As.reverse ++ rest) (hrest : (rest.map fun v => v.category).sum ≤ 8) (hst : v'.toList ++ rest = st') (hp : pc + 3 = pc') (kk : GG p l e R s m args below meth c Q A nL (cells + rm.cells) (slots + rm.slots) B' pc' lv st') : GG p l e R s m args below meth c Q A nL cells slots B pc lv st0 :=
  G_callS (F := fun _ => True) C hd hM hw hy hn hR (fun _ h => h) (fun _ h => ⟨h, trivial⟩) (fun _ _ _ _ _ _ => trivial) hs0 hrest hst hp (G_world (fun _ h => h.1) kk)
theorem R_g_bits (C : Cx κ p s m args meth c cc nL RX10 ret) (hd : decode cc pc = .ok (.getfield 7, 3)) (hp : pc + 3 = pc') (kk : GG p l e R s m args below meth c Q (RA o) nL cells slots (RB κ o r) pc' lv (.ref (o + 1) :: st)) : GG p l e R s m args below meth c Q (RA o) nL cells slots (RB κ o r) pc lv (.ref o :: st) := G_get (k := 0) C fi_X10 hd tw_fl_X10_7 rfl (by decide) (RB_rd 0 rfl) rfl hp kk
theorem R_g_kind (C : Cx κ p s m args meth c cc nL RX10 ret) (hd : decode cc pc = .ok (.getfield 13, 3)) (hp : pc + 3 = pc') (kk : GG p l e R s m args below meth c Q (RA o) nL cells slots (RB κ o r) pc' lv (.ref (o + 2) :: st)) : GG p l e R s m args below meth c Q (RA o) nL cells slots (RB κ o r) pc lv (.ref o :: st) := G_get (k := 1) C fi_X10 hd tw_fl_X10_13 rfl (by decide) (RB_rd 0 rfl) rfl hp kk
theorem R_g_putWorth (C : Cx κ p s m args meth c cc nL RX10 ret) (hd : decode cc pc = .ok (.getfield 16, 3)) (hp : pc + 3 = pc') (kk : GG p l e R s m args below meth c Q (RA o) nL cells slots (RB κ o r) pc' lv (.ref (o + 3) :: st)) : GG p l e R s m args below meth c Q (RA o) nL cells slots (RB κ o r) pc lv (.ref o :: st) := G_get (k := 2) C fi_X10 hd tw_fl_X10_16 rfl (by decide) (RB_rd 0 rfl) rfl hp kk
theorem R_g_says (C : Cx κ p s m args meth c cc nL RX10 ret) (hd : decode cc pc = .ok (.getfield 19, 3)) (hp : pc + 3 = pc') (kk : GG p l e R s m args below meth c Q (RA o) nL cells slots (RB κ o r) pc' lv (.ref (o + 4) :: st)) : GG p l e R s m args below meth c Q (RA o) nL cells slots (RB κ o r) pc lv (.ref o :: st) := G_get (k := 3) C fi_X10 hd tw_fl_X10_19 rfl (by decide) (RB_rd 0 rfl) rfl hp kk
theorem R_g_isKept (C : Cx κ p s m args meth c cc nL RX10 ret) (hd : decode cc pc = .ok (.getfield 249, 3)) (hp : pc + 3 = pc') (kk : GG p l e R s m args below meth c Q (RA o) nL cells slots (RB κ o r) pc' lv (.int (r.1 0) :: st)) : GG p l e R s m args below meth c Q (RA o) nL cells slots (RB κ o r) pc lv (.ref o :: st) := G_get (k := 4) C fi_X10 hd tw_fl_X10_249 rfl (by decide) (RB_rd 0 rfl) rfl hp kk
theorem R_p_isKept {x : Int32} (C : Cx κ p s m args meth c cc nL RX10 ret) (hd : decode cc pc = .ok (.putfield 249, 3)) (hn : narrow .boolean (.int x) = .int x) (hf : fits .boolean (.int x) = true) (hp : pc + 3 = pc') (kk : GG p l e R s m args below meth c Q (RA o) nL cells slots (RB κ o (rI r 0 x)) pc' lv st) : GG p l e R s m args below meth c Q (RA o) nL cells slots (RB κ o r) pc lv (.int x :: .ref o :: st) := G_put (k := 4) C fi_X10 hd tw_fl_X10_249 rfl (by decide) rfl hn hf (Nat.le_of_ble_eq_true rfl) (RB_rd 0 rfl) (RB_wr 0 (by decide) rfl) hp kk
theorem R_g_sheetSort (C : Cx κ p s m args meth c cc nL RX10 ret) (hd : decode cc pc = .ok (.getfield 22, 3)) (hp : pc + 3 = pc') (kk : GG p l e R s m args below meth c Q (RA o) nL cells slots (RB κ o r) pc' lv (.ref (o + 5) :: st)) : GG p l e R s m args below meth c Q (RA o) nL cells slots (RB κ o r) pc lv (.ref o :: st) := G_get (k := 5) C fi_X10 hd tw_fl_X10_22 rfl (by decide) (RB_rd 0 rfl) rfl hp kk
theorem R_g_sheetSize (C : Cx κ p s m args meth c cc nL RX10 ret) (hd : decode cc pc = .ok (.getfield 25, 3)) (hp : pc + 3 = pc') (kk : GG p l e R s m args below meth c Q (RA o) nL cells slots (RB κ o r) pc' lv (.ref (o + 6) :: st)) : GG p l e R s m args below meth c Q (RA o) nL cells slots (RB κ o r) pc lv (.ref o :: st) := G_get (k := 6) C fi_X10 hd tw_fl_X10_25 rfl (by decide) (RB_rd 0 rfl) rfl hp kk
theorem R_g_sheet (C : Cx κ p s m args meth c cc nL RX10 ret) (hd : decode cc pc = .ok (.getfield 28, 3)) (hp : pc + 3 = pc') (kk : GG p l e R s m args below meth c Q (RA o) nL cells slots (RB κ o r) pc' lv (.ref (o + 7) :: st)) : GG p l e R s m args below meth c Q (RA o) nL cells slots (RB κ o r) pc lv (.ref o :: st) := G_get (k := 7) C fi_X10 hd tw_fl_X10_28 rfl (by decide) (RB_rd 0 rfl) rfl hp kk
theorem R_g_waits (C : Cx κ p s m args meth c cc nL RX10 ret) (hd : decode cc pc = .ok (.getfield 159, 3)) (hp : pc + 3 = pc') (kk : GG p l e R s m args below meth c Q (RA o) nL cells slots (RB κ o r) pc' lv (.int (r.1 1) :: st)) : GG p l e R s m args below meth c Q (RA o) nL cells slots (RB κ o r) pc lv (.ref o :: st) := G_get (k := 8) C fi_X10 hd tw_fl_X10_159 rfl (by decide) (RB_rd 0 rfl) rfl hp kk
theorem R_p_waits {x : Int32} (C : Cx κ p s m args meth c cc nL RX10 ret) (hd : decode cc pc = .ok (.putfield 159, 3)) (hp : pc + 3 = pc') (kk : GG p l e R s m args below meth c Q (RA o) nL cells slots (RB κ o (rI r 1 x)) pc' lv st) : GG p l e R s m args below meth c Q (RA o) nL cells slots (RB κ o r) pc lv (.int x :: .ref o :: st) := G_put (k := 8) C fi_X10 hd tw_fl_X10_159 rfl (by decide) rfl rfl rfl (Nat.le_of_ble_eq_true rfl) (RB_rd 0 rfl) (RB_wr 0 (by decide) rfl) hp kk
theorem R_g_waiting (C : Cx κ p s m args meth c cc nL RX10 ret) (hd : decode cc pc = .ok (.getfield 32, 3)) (hp : pc + 3 = pc') (kk : GG p l e R s m args below meth c Q (RA o) nL cells slots (RB κ o r) pc' lv (.ref (o + 8) :: st)) : GG p l e R s m args below meth c Q (RA o) nL cells slots (RB κ o r) pc lv (.ref o :: st) := G_get (k := 9) C fi_X10 hd tw_fl_X10_32 rfl (by decide) (RB_rd 0 rfl) rfl hp kk
theorem R_g_met (C : Cx κ p s m args meth c cc nL RX10 ret) (hd : decode cc pc = .ok (.getfield 112, 3)) (hp : pc + 3 = pc') (kk : GG p l e R s m args below meth c Q (RA o) nL cells slots (RB κ o r) pc' lv (.int (r.1 2) :: st)) : GG p l e R s m args below meth c Q (RA o) nL cells slots (RB κ o r) pc lv (.ref o :: st) := G_get (k := 10) C fi_X10 hd tw_fl_X10_112 rfl (by decide) (RB_rd 0 rfl) rfl hp kk
theorem R_p_met {x : Int32} (C : Cx κ p s m args meth c cc nL RX10 ret) (hd : decode cc pc = .ok (.putfield 112, 3)) (hp : pc + 3 = pc') (kk : GG p l e R s m args below meth c Q (RA o) nL cells slots (RB κ o (rI r 2 x)) pc' lv st) : GG p l e R s m args below meth c Q (RA o) nL cells slots (RB κ o r) pc lv (.int x :: .ref o :: st) := G_put (k := 10) C fi_X10 hd tw_fl_X10_112 rfl (by decide) rfl rfl rfl (Nat.le_of_ble_eq_true rfl) (RB_rd 0 rfl) (RB_wr 0 (by decide) rfl) hp kk
theorem R_g_shownFirst (C : Cx κ p s m args meth c cc nL RX10 ret) (hd : decode cc pc = .ok (.getfield 35, 3)) (hp : pc + 3 = pc') (kk : GG p l e R s m args below meth c Q (RA o) nL cells slots (RB κ o r) pc' lv (.int (r.1 3) :: st)) : GG p l e R s m args below meth c Q (RA o) nL cells slots (RB κ o r) pc lv (.ref o :: st) := G_get (k := 11) C fi_X10 hd tw_fl_X10_35 rfl (by decide) (RB_rd 0 rfl) rfl hp kk
theorem R_p_shownFirst {x : Int32} (C : Cx κ p s m args meth c cc nL RX10 ret) (hd : decode cc pc = .ok (.putfield 35, 3)) (hp : pc + 3 = pc') (kk : GG p l e R s m args below meth c Q (RA o) nL cells slots (RB κ o (rI r 3 x)) pc' lv st) : GG p l e R s m args below meth c Q (RA o) nL cells slots (RB κ o r) pc lv (.int x :: .ref o :: st) := G_put (k := 11) C fi_X10 hd tw_fl_X10_35 rfl (by decide) rfl rfl rfl (Nat.le_of_ble_eq_true rfl) (RB_rd 0 rfl) (RB_wr 0 (by decide) rfl) hp kk
theorem R_g_shownSecond (C : Cx κ p s m args meth c cc nL RX10 ret) (hd : decode cc pc = .ok (.getfield 39, 3)) (hp : pc + 3 = pc') (kk : GG p l e R s m args below meth c Q (RA o) nL cells slots (RB κ o r) pc' lv (.int (r.1 4) :: st)) : GG p l e R s m args below meth c Q (RA o) nL cells slots (RB κ o r) pc lv (.ref o :: st) := G_get (k := 12) C fi_X10 hd tw_fl_X10_39 rfl (by decide) (RB_rd 0 rfl) rfl hp kk
theorem R_p_shownSecond {x : Int32} (C : Cx κ p s m args meth c cc nL RX10 ret) (hd : decode cc pc = .ok (.putfield 39, 3)) (hp : pc + 3 = pc') (kk : GG p l e R s m args below meth c Q (RA o) nL cells slots (RB κ o (rI r 4 x)) pc' lv st) : GG p l e R s m args below meth c Q (RA o) nL cells slots (RB κ o r) pc lv (.int x :: .ref o :: st) := G_put (k := 12) C fi_X10 hd tw_fl_X10_39 rfl (by decide) rfl rfl rfl (Nat.le_of_ble_eq_true rfl) (RB_rd 0 rfl) (RB_wr 0 (by decide) rfl) hp kk
theorem R_g_carried (C : Cx κ p s m args meth c cc nL RX10 ret) (hd : decode cc pc = .ok (.getfield 42, 3)) (hp : pc + 3 = pc') (kk : GG p l e R s m args below meth c Q (RA o) nL cells slots (RB κ o r) pc' lv (.ref (o + 9) :: st)) : GG p l e R s m args below meth c Q (RA o) nL cells slots (RB κ o r) pc lv (.ref o :: st) := G_get (k := 13) C fi_X10 hd tw_fl_X10_42 rfl (by decide) (RB_rd 0 rfl) rfl hp kk
theorem R_g_made (C : Cx κ p s m args meth c cc nL RX10 ret) (hd : decode cc pc = .ok (.getfield 45, 3)) (hp : pc + 3 = pc') (kk : GG p l e R s m args below meth c Q (RA o) nL cells slots (RB κ o r) pc' lv (.ref (o + 10) :: st)) : GG p l e R s m args below meth c Q (RA o) nL cells slots (RB κ o r) pc lv (.ref o :: st) := G_get (k := 14) C fi_X10 hd tw_fl_X10_45 rfl (by decide) (RB_rd 0 rfl) rfl hp kk
theorem R_g_pile (C : Cx κ p s m args meth c cc nL RX10 ret) (hd : decode cc pc = .ok (.getfield 48, 3)) (hp : pc + 3 = pc') (kk : GG p l e R s m args below meth c Q (RA o) nL cells slots (RB κ o r) pc' lv (.ref (o + 11) :: st)) : GG p l e R s m args below meth c Q (RA o) nL cells slots (RB κ o r) pc lv (.ref o :: st) := G_get (k := 15) C fi_X10 hd tw_fl_X10_48 rfl (by decide) (RB_rd 0 rfl) rfl hp kk
theorem R_g_power (C : Cx κ p s m args meth c cc nL RX10 ret) (hd : decode cc pc = .ok (.getfield 51, 3)) (hp : pc + 3 = pc') (kk : GG p l e R s m args below meth c Q (RA o) nL cells slots (RB κ o r) pc' lv (.ref (o + 12) :: st)) : GG p l e R s m args below meth c Q (RA o) nL cells slots (RB κ o r) pc lv (.ref o :: st) := G_get (k := 16) C fi_X10 hd tw_fl_X10_51 rfl (by decide) (RB_rd 0 rfl) rfl hp kk
theorem R_g_has (C : Cx κ p s m args meth c cc nL RX10 ret) (hd : decode cc pc = .ok (.getfield 54, 3)) (hp : pc + 3 = pc') (kk : GG p l e R s m args below meth c Q (RA o) nL cells slots (RB κ o r) pc' lv (.ref (o + 13) :: st)) : GG p l e R s m args below meth c Q (RA o) nL cells slots (RB κ o r) pc lv (.ref o :: st) := G_get (k := 17) C fi_X10 hd tw_fl_X10_54 rfl (by decide) (RB_rd 0 rfl) rfl hp kk
theorem R_g_depth (C : Cx κ p s m args meth c cc nL RX10 ret) (hd : decode cc pc = .ok (.getfield 57, 3)) (hp : pc + 3 = pc') (kk : GG p l e R s m args below meth c Q (RA o) nL cells slots (RB κ o r) pc' lv (.ref (o + 14) :: st)) : GG p l e R s m args below meth c Q (RA o) nL cells slots (RB κ o r) pc lv (.ref o :: st) := G_get (k := 18) C fi_X10 hd tw_fl_X10_57 rfl (by decide) (RB_rd 0 rfl) rfl hp kk
theorem R_g_sum (C : Cx κ p s m args meth c cc nL RX10 ret) (hd : decode cc pc = .ok (.getfield 60, 3)) (hp : pc + 3 = pc') (kk : GG p l e R s m args below meth c Q (RA o) nL cells slots (RB κ o r) pc' lv (.ref (o + 15) :: st)) : GG p l e R s m args below meth c Q (RA o) nL cells slots (RB κ o r) pc lv (.ref o :: st) := G_get (k := 19) C fi_X10 hd tw_fl_X10_60 rfl (by decide) (RB_rd 0 rfl) rfl hp kk
theorem R_g_wide (C : Cx κ p s m args meth c cc nL RX10 ret) (hd : decode cc pc = .ok (.getfield 63, 3)) (hp : pc + 3 = pc') (kk : GG p l e R s m args below meth c Q (RA o) nL cells slots (RB κ o r) pc' lv (.ref (o + 16) :: st)) : GG p l e R s m args below meth c Q (RA o) nL cells slots (RB κ o r) pc lv (.ref o :: st) := G_get (k := 20) C fi_X10 hd tw_fl_X10_63 rfl (by decide) (RB_rd 0 rfl) rfl hp kk
theorem R_g_nodes (C : Cx κ p s m args meth c cc nL RX10 ret) (hd : decode cc pc = .ok (.getfield 193, 3)) (hp : pc + 3 = pc') (kk : GG p l e R s m args below meth c Q (RA o) nL cells slots (RB κ o r) pc' lv (.int (r.1 5) :: st)) : GG p l e R s m args below meth c Q (RA o) nL cells slots (RB κ o r) pc lv (.ref o :: st) := G_get (k := 21) C fi_X10 hd tw_fl_X10_193 rfl (by decide) (RB_rd 0 rfl) rfl hp kk
theorem R_p_nodes {x : Int32} (C : Cx κ p s m args meth c cc nL RX10 ret) (hd : decode cc pc = .ok (.putfield 193, 3)) (hp : pc + 3 = pc') (kk : GG p l e R s m args below meth c Q (RA o) nL cells slots (RB κ o (rI r 5 x)) pc' lv st) : GG p l e R s m args below meth c Q (RA o) nL cells slots (RB κ o r) pc lv (.int x :: .ref o :: st) := G_put (k := 21) C fi_X10 hd tw_fl_X10_193 rfl (by decide) rfl rfl rfl (Nat.le_of_ble_eq_true rfl) (RB_rd 0 rfl) (RB_wr 0 (by decide) rfl) hp kk
theorem R_g_nodeSays (C : Cx κ p s m args meth c cc nL RX10 ret) (hd : decode cc pc = .ok (.getfield 66, 3)) (hp : pc + 3 = pc') (kk : GG p l e R s m args below meth c Q (RA o) nL cells slots (RB κ o r) pc' lv (.ref (o + 17) :: st)) : GG p l e R s m args below meth c Q (RA o) nL cells slots (RB κ o r) pc lv (.ref o :: st) := G_get (k := 22) C fi_X10 hd tw_fl_X10_66 rfl (by decide) (RB_rd 0 rfl) rfl hp kk
theorem R_g_nodeLooks (C : Cx κ p s m args meth c cc nL RX10 ret) (hd : decode cc pc = .ok (.getfield 69, 3)) (hp : pc + 3 = pc') (kk : GG p l e R s m args below meth c Q (RA o) nL cells slots (RB κ o r) pc' lv (.ref (o + 18) :: st)) : GG p l e R s m args below meth c Q (RA o) nL cells slots (RB κ o r) pc lv (.ref o :: st) := G_get (k := 23) C fi_X10 hd tw_fl_X10_69 rfl (by decide) (RB_rd 0 rfl) rfl hp kk
theorem R_g_nodeZero (C : Cx κ p s m args meth c cc nL RX10 ret) (hd : decode cc pc = .ok (.getfield 72, 3)) (hp : pc + 3 = pc') (kk : GG p l e R s m args below meth c Q (RA o) nL cells slots (RB κ o r) pc' lv (.ref (o + 19) :: st)) : GG p l e R s m args below meth c Q (RA o) nL cells slots (RB κ o r) pc lv (.ref o :: st) := G_get (k := 24) C fi_X10 hd tw_fl_X10_72 rfl (by decide) (RB_rd 0 rfl) rfl hp kk
theorem R_g_nodeOne (C : Cx κ p s m args meth c cc nL RX10 ret) (hd : decode cc pc = .ok (.getfield 75, 3)) (hp : pc + 3 = pc') (kk : GG p l e R s m args below meth c Q (RA o) nL cells slots (RB κ o r) pc' lv (.ref (o + 20) :: st)) : GG p l e R s m args below meth c Q (RA o) nL cells slots (RB κ o r) pc lv (.ref o :: st) := G_get (k := 25) C fi_X10 hd tw_fl_X10_75 rfl (by decide) (RB_rd 0 rfl) rfl hp kk
theorem R_g_comeCube (C : Cx κ p s m args meth c cc nL RX10 ret) (hd : decode cc pc = .ok (.getfield 78, 3)) (hp : pc + 3 = pc') (kk : GG p l e R s m args below meth c Q (RA o) nL cells slots (RB κ o r) pc' lv (.ref (o + 21) :: st)) : GG p l e R s m args below meth c Q (RA o) nL cells slots (RB κ o r) pc lv (.ref o :: st) := G_get (k := 26) C fi_X10 hd tw_fl_X10_78 rfl (by decide) (RB_rd 0 rfl) rfl hp kk
theorem R_g_comeLooks (C : Cx κ p s m args meth c cc nL RX10 ret) (hd : decode cc pc = .ok (.getfield 81, 3)) (hp : pc + 3 = pc') (kk : GG p l e R s m args below meth c Q (RA o) nL cells slots (RB κ o r) pc' lv (.ref (o + 22) :: st)) : GG p l e R s m args below meth c Q (RA o) nL cells slots (RB κ o r) pc lv (.ref o :: st) := G_get (k := 27) C fi_X10 hd tw_fl_X10_81 rfl (by decide) (RB_rd 0 rfl) rfl hp kk
theorem R_g_comeOf (C : Cx κ p s m args meth c cc nL RX10 ret) (hd : decode cc pc = .ok (.getfield 84, 3)) (hp : pc + 3 = pc') (kk : GG p l e R s m args below meth c Q (RA o) nL cells slots (RB κ o r) pc' lv (.ref (o + 23) :: st)) : GG p l e R s m args below meth c Q (RA o) nL cells slots (RB κ o r) pc lv (.ref o :: st) := G_get (k := 28) C fi_X10 hd tw_fl_X10_84 rfl (by decide) (RB_rd 0 rfl) rfl hp kk
theorem R_g_comeAs (C : Cx κ p s m args meth c cc nL RX10 ret) (hd : decode cc pc = .ok (.getfield 87, 3)) (hp : pc + 3 = pc') (kk : GG p l e R s m args below meth c Q (RA o) nL cells slots (RB κ o r) pc' lv (.ref (o + 24) :: st)) : GG p l e R s m args below meth c Q (RA o) nL cells slots (RB κ o r) pc lv (.ref o :: st) := G_get (k := 29) C fi_X10 hd tw_fl_X10_87 rfl (by decide) (RB_rd 0 rfl) rfl hp kk
theorem R_g_blocks (C : Cx κ p s m args meth c cc nL RX10 ret) (hd : decode cc pc = .ok (.getfield 90, 3)) (hp : pc + 3 = pc') (kk : GG p l e R s m args below meth c Q (RA o) nL cells slots (RB κ o r) pc' lv (.ref (o + 25) :: st)) : GG p l e R s m args below meth c Q (RA o) nL cells slots (RB κ o r) pc lv (.ref o :: st) := G_get (k := 30) C fi_X10 hd tw_fl_X10_90 rfl (by decide) (RB_rd 0 rfl) rfl hp kk
theorem R_g_mostAt (C : Cx κ p s m args meth c cc nL RX10 ret) (hd : decode cc pc = .ok (.getfield 219, 3)) (hp : pc + 3 = pc') (kk : GG p l e R s m args below meth c Q (RA o) nL cells slots (RB κ o r) pc' lv (.int (r.1 6) :: st)) : GG p l e R s m args below meth c Q (RA o) nL cells slots (RB κ o r) pc lv (.ref o :: st) := G_get (k := 31) C fi_X10 hd tw_fl_X10_219 rfl (by decide) (RB_rd 0 rfl) rfl hp kk
theorem R_p_mostAt {x : Int32} (C : Cx κ p s m args meth c cc nL RX10 ret) (hd : decode cc pc = .ok (.putfield 219, 3)) (hp : pc + 3 = pc') (kk : GG p l e R s m args below meth c Q (RA o) nL cells slots (RB κ o (rI r 6 x)) pc' lv st) : GG p l e R s m args below meth c Q (RA o) nL cells slots (RB κ o r) pc lv (.int x :: .ref o :: st) := G_put (k := 31) C fi_X10 hd tw_fl_X10_219 rfl (by decide) rfl rfl rfl (Nat.le_of_ble_eq_true rfl) (RB_rd 0 rfl) (RB_wr 0 (by decide) rfl) hp kk
theorem R_g_needs (C : Cx κ p s m args meth c cc nL RX10 ret) (hd : decode cc pc = .ok (.getfield 94, 3)) (hp : pc + 3 = pc') (kk : GG p l e R s m args below meth c Q (RA o) nL cells slots (RB κ o r) pc' lv (.ref (o + 26) :: st)) : GG p l e R s m args below meth c Q (RA o) nL cells slots (RB κ o r) pc lv (.ref o :: st) := G_get (k := 32) C fi_X10 hd tw_fl_X10_94 rfl (by decide) (RB_rd 0 rfl) rfl hp kk
theorem R_g_forms (C : Cx κ p s m args meth c cc nL RX10 ret) (hd : decode cc pc = .ok (.getfield 237, 3)) (hp : pc + 3 = pc') (kk : GG p l e R s m args below meth c Q (RA o) nL cells slots (RB κ o r) pc' lv (.int (r.1 7) :: st)) : GG p l e R s m args below meth c Q (RA o) nL cells slots (RB κ o r) pc lv (.ref o :: st) := G_get (k := 33) C fi_X10 hd tw_fl_X10_237 rfl (by decide) (RB_rd 0 rfl) rfl hp kk
theorem R_p_forms {x : Int32} (C : Cx κ p s m args meth c cc nL RX10 ret) (hd : decode cc pc = .ok (.putfield 237, 3)) (hp : pc + 3 = pc') (kk : GG p l e R s m args below meth c Q (RA o) nL cells slots (RB κ o (rI r 7 x)) pc' lv st) : GG p l e R s m args below meth c Q (RA o) nL cells slots (RB κ o r) pc lv (.int x :: .ref o :: st) := G_put (k := 33) C fi_X10 hd tw_fl_X10_237 rfl (by decide) rfl rfl rfl (Nat.le_of_ble_eq_true rfl) (RB_rd 0 rfl) (RB_wr 0 (by decide) rfl) hp kk
theorem R_g_form (C : Cx κ p s m args meth c cc nL RX10 ret) (hd : decode cc pc = .ok (.getfield 97, 3)) (hp : pc + 3 = pc') (kk : GG p l e R s m args below meth c Q (RA o) nL cells slots (RB κ o r) pc' lv (.ref (o + 27) :: st)) : GG p l e R s m args below meth c Q (RA o) nL cells slots (RB κ o r) pc lv (.ref o :: st) := G_get (k := 34) C fi_X10 hd tw_fl_X10_97 rfl (by decide) (RB_rd 0 rfl) rfl hp kk
theorem R_g_inputSet (C : Cx κ p s m args meth c cc nL RX10 ret) (hd : decode cc pc = .ok (.getfield 100, 3)) (hp : pc + 3 = pc') (kk : GG p l e R s m args below meth c Q (RA o) nL cells slots (RB κ o r) pc' lv (.ref (o + 28) :: st)) : GG p l e R s m args below meth c Q (RA o) nL cells slots (RB κ o r) pc lv (.ref o :: st) := G_get (k := 35) C fi_X10 hd tw_fl_X10_100 rfl (by decide) (RB_rd 0 rfl) rfl hp kk
theorem R_g_letters (C : Cx κ p s m args meth c cc nL RX10 ret) (hd : decode cc pc = .ok (.getfield 103, 3)) (hp : pc + 3 = pc') (kk : GG p l e R s m args below meth c Q (RA o) nL cells slots (RB κ o r) pc' lv (.ref (o + 29) :: st)) : GG p l e R s m args below meth c Q (RA o) nL cells slots (RB κ o r) pc lv (.ref o :: st) := G_get (k := 36) C fi_X10 hd tw_fl_X10_103 rfl (by decide) (RB_rd 0 rfl) rfl hp kk
theorem R_g_gameBits (C : Cx κ p s m args meth c cc nL RX10 ret) (hd : decode cc pc = .ok (.getfield 243, 3)) (hp : pc + 3 = pc') (kk : GG p l e R s m args below meth c Q (RA o) nL cells slots (RB κ o r) pc' lv (.int (r.1 8) :: st)) : GG p l e R s m args below meth c Q (RA o) nL cells slots (RB κ o r) pc lv (.ref o :: st) := G_get (k := 37) C fi_X10 hd tw_fl_X10_243 rfl (by decide) (RB_rd 0 rfl) rfl hp kk
theorem R_p_gameBits {x : Int32} (C : Cx κ p s m args meth c cc nL RX10 ret) (hd : decode cc pc = .ok (.putfield 243, 3)) (hp : pc + 3 = pc') (kk : GG p l e R s m args below meth c Q (RA o) nL cells slots (RB κ o (rI r 8 x)) pc' lv st) : GG p l e R s m args below meth c Q (RA o) nL cells slots (RB κ o r) pc lv (.int x :: .ref o :: st) := G_put (k := 37) C fi_X10 hd tw_fl_X10_243 rfl (by decide) rfl rfl rfl (Nat.le_of_ble_eq_true rfl) (RB_rd 0 rfl) (RB_wr 0 (by decide) rfl) hp kk
theorem R_g_gameCube (C : Cx κ p s m args meth c cc nL RX10 ret) (hd : decode cc pc = .ok (.getfield 246, 3)) (hp : pc + 3 = pc') (kk : GG p l e R s m args below meth c Q (RA o) nL cells slots (RB κ o r) pc' lv (.int (r.1 9) :: st)) : GG p l e R s m args below meth c Q (RA o) nL cells slots (RB κ o r) pc lv (.ref o :: st) := G_get (k := 38) C fi_X10 hd tw_fl_X10_246 rfl (by decide) (RB_rd 0 rfl) rfl hp kk
theorem R_p_gameCube {x : Int32} (C : Cx κ p s m args meth c cc nL RX10 ret) (hd : decode cc pc = .ok (.putfield 246, 3)) (hp : pc + 3 = pc') (kk : GG p l e R s m args below meth c Q (RA o) nL cells slots (RB κ o (rI r 9 x)) pc' lv st) : GG p l e R s m args below meth c Q (RA o) nL cells slots (RB κ o r) pc lv (.int x :: .ref o :: st) := G_put (k := 38) C fi_X10 hd tw_fl_X10_246 rfl (by decide) rfl rfl rfl (Nat.le_of_ble_eq_true rfl) (RB_rd 0 rfl) (RB_wr 0 (by decide) rfl) hp kk
theorem R_g_gameDepth (C : Cx κ p s m args meth c cc nL RX10 ret) (hd : decode cc pc = .ok (.getfield 106, 3)) (hp : pc + 3 = pc') (kk : GG p l e R s m args below meth c Q (RA o) nL cells slots (RB κ o r) pc' lv (.ref (o + 30) :: st)) : GG p l e R s m args below meth c Q (RA o) nL cells slots (RB κ o r) pc lv (.ref o :: st) := G_get (k := 39) C fi_X10 hd tw_fl_X10_106 rfl (by decide) (RB_rd 0 rfl) rfl hp kk
theorem R_g_gameHas (C : Cx κ p s m args meth c cc nL RX10 ret) (hd : decode cc pc = .ok (.getfield 109, 3)) (hp : pc + 3 = pc') (kk : GG p l e R s m args below meth c Q (RA o) nL cells slots (RB κ o r) pc' lv (.ref (o + 31) :: st)) : GG p l e R s m args below meth c Q (RA o) nL cells slots (RB κ o r) pc lv (.ref o :: st) := G_get (k := 40) C fi_X10 hd tw_fl_X10_109 rfl (by decide) (RB_rd 0 rfl) rfl hp kk
theorem R_l_bits {i v : Int32} (C : Cx κ p s m args meth c cc nL own ret) (hd : decode cc pc = .ok (.iaload, 1)) (hv : aI 16 (r.2.1 0) i = some v) (hp : pc + 1 = pc') (kk : GG p l e R s m args below meth c Q (RA o) nL cells slots (RB κ o r) pc' lv (.int v :: st)) : GG p l e R s m args below meth c Q (RA o) nL cells slots (RB κ o r) pc lv (.int i :: .ref (o + 1) :: st) := by
  obtain ⟨hi, rfl⟩ := aI_s hv
  exact G_iald C hd (RB_rd 1 rfl) hi hp kk
theorem R_s_bits {i x : Int32} {r' : RS} (C : Cx κ p s m args meth c cc nL own ret) (hd : decode cc pc = .ok (.iastore, 1)) (hv : sA r 0 16 i x = some r') (hp : pc + 1 = pc') (kk : GG p l e R s m args below meth c Q (RA o) nL cells slots (RB κ o r') pc' lv st) : GG p l e R s m args below meth c Q (RA o) nL cells slots (RB κ o r) pc lv (.int x :: .int i :: .ref (o + 1) :: st) := by
  obtain ⟨hi, rfl⟩ := sA_s hv
  exact G_iast C hd (RB_rd 1 rfl) hi (RB_wr 1 (by decide) rfl) hp kk
theorem R_l_kind {i v : Int32} (C : Cx κ p s m args meth c cc nL own ret) (hd : decode cc pc = .ok (.iaload, 1)) (hv : aI 16 (r.2.1 1) i = some v) (hp : pc + 1 = pc') (kk : GG p l e R s m args below meth c Q (RA o) nL cells slots (RB κ o r) pc' lv (.int v :: st)) : GG p l e R s m args below meth c Q (RA o) nL cells slots (RB κ o r) pc lv (.int i :: .ref (o + 2) :: st) := by
  obtain ⟨hi, rfl⟩ := aI_s hv
  exact G_iald C hd (RB_rd 2 rfl) hi hp kk
theorem R_s_kind {i x : Int32} {r' : RS} (C : Cx κ p s m args meth c cc nL own ret) (hd : decode cc pc = .ok (.iastore, 1)) (hv : sA r 1 16 i x = some r') (hp : pc + 1 = pc') (kk : GG p l e R s m args below meth c Q (RA o) nL cells slots (RB κ o r') pc' lv st) : GG p l e R s m args below meth c Q (RA o) nL cells slots (RB κ o r) pc lv (.int x :: .int i :: .ref (o + 2) :: st) := by
  obtain ⟨hi, rfl⟩ := sA_s hv
  exact G_iast C hd (RB_rd 2 rfl) hi (RB_wr 2 (by decide) rfl) hp kk
theorem R_l_putWorth {i v : Int32} (C : Cx κ p s m args meth c cc nL own ret) (hd : decode cc pc = .ok (.iaload, 1)) (hv : aI 16 (r.2.1 2) i = some v) (hp : pc + 1 = pc') (kk : GG p l e R s m args below meth c Q (RA o) nL cells slots (RB κ o r) pc' lv (.int v :: st)) : GG p l e R s m args below meth c Q (RA o) nL cells slots (RB κ o r) pc lv (.int i :: .ref (o + 3) :: st) := by
  obtain ⟨hi, rfl⟩ := aI_s hv
  exact G_iald C hd (RB_rd 3 rfl) hi hp kk
theorem R_s_putWorth {i x : Int32} {r' : RS} (C : Cx κ p s m args meth c cc nL own ret) (hd : decode cc pc = .ok (.iastore, 1)) (hv : sA r 2 16 i x = some r') (hp : pc + 1 = pc') (kk : GG p l e R s m args below meth c Q (RA o) nL cells slots (RB κ o r') pc' lv st) : GG p l e R s m args below meth c Q (RA o) nL cells slots (RB κ o r) pc lv (.int x :: .int i :: .ref (o + 3) :: st) := by
  obtain ⟨hi, rfl⟩ := sA_s hv
  exact G_iast C hd (RB_rd 3 rfl) hi (RB_wr 3 (by decide) rfl) hp kk
theorem R_l_says {i v : Int32} (C : Cx κ p s m args meth c cc nL own ret) (hd : decode cc pc = .ok (.iaload, 1)) (hv : aI 4096 (r.2.1 3) i = some v) (hp : pc + 1 = pc') (kk : GG p l e R s m args below meth c Q (RA o) nL cells slots (RB κ o r) pc' lv (.int v :: st)) : GG p l e R s m args below meth c Q (RA o) nL cells slots (RB κ o r) pc lv (.int i :: .ref (o + 4) :: st) := by
  obtain ⟨hi, rfl⟩ := aI_s hv
  exact G_iald C hd (RB_rd 4 rfl) hi hp kk
theorem R_s_says {i x : Int32} {r' : RS} (C : Cx κ p s m args meth c cc nL own ret) (hd : decode cc pc = .ok (.iastore, 1)) (hv : sA r 3 4096 i x = some r') (hp : pc + 1 = pc') (kk : GG p l e R s m args below meth c Q (RA o) nL cells slots (RB κ o r') pc' lv st) : GG p l e R s m args below meth c Q (RA o) nL cells slots (RB κ o r) pc lv (.int x :: .int i :: .ref (o + 4) :: st) := by
  obtain ⟨hi, rfl⟩ := sA_s hv
  exact G_iast C hd (RB_rd 4 rfl) hi (RB_wr 4 (by decide) rfl) hp kk
theorem R_l_sheetSort {i v : Int32} (C : Cx κ p s m args meth c cc nL own ret) (hd : decode cc pc = .ok (.iaload, 1)) (hv : aI 6 (r.2.1 4) i = some v) (hp : pc + 1 = pc') (kk : GG p l e R s m args below meth c Q (RA o) nL cells slots (RB κ o r) pc' lv (.int v :: st)) : GG p l e R s m args below meth c Q (RA o) nL cells slots (RB κ o r) pc lv (.int i :: .ref (o + 5) :: st) := by
  obtain ⟨hi, rfl⟩ := aI_s hv
  exact G_iald C hd (RB_rd 5 rfl) hi hp kk
theorem R_s_sheetSort {i x : Int32} {r' : RS} (C : Cx κ p s m args meth c cc nL own ret) (hd : decode cc pc = .ok (.iastore, 1)) (hv : sA r 4 6 i x = some r') (hp : pc + 1 = pc') (kk : GG p l e R s m args below meth c Q (RA o) nL cells slots (RB κ o r') pc' lv st) : GG p l e R s m args below meth c Q (RA o) nL cells slots (RB κ o r) pc lv (.int x :: .int i :: .ref (o + 5) :: st) := by
  obtain ⟨hi, rfl⟩ := sA_s hv
  exact G_iast C hd (RB_rd 5 rfl) hi (RB_wr 5 (by decide) rfl) hp kk
theorem R_l_sheetSize {i v : Int32} (C : Cx κ p s m args meth c cc nL own ret) (hd : decode cc pc = .ok (.iaload, 1)) (hv : aI 6 (r.2.1 5) i = some v) (hp : pc + 1 = pc') (kk : GG p l e R s m args below meth c Q (RA o) nL cells slots (RB κ o r) pc' lv (.int v :: st)) : GG p l e R s m args below meth c Q (RA o) nL cells slots (RB κ o r) pc lv (.int i :: .ref (o + 6) :: st) := by
  obtain ⟨hi, rfl⟩ := aI_s hv
  exact G_iald C hd (RB_rd 6 rfl) hi hp kk
theorem R_s_sheetSize {i x : Int32} {r' : RS} (C : Cx κ p s m args meth c cc nL own ret) (hd : decode cc pc = .ok (.iastore, 1)) (hv : sA r 5 6 i x = some r') (hp : pc + 1 = pc') (kk : GG p l e R s m args below meth c Q (RA o) nL cells slots (RB κ o r') pc' lv st) : GG p l e R s m args below meth c Q (RA o) nL cells slots (RB κ o r) pc lv (.int x :: .int i :: .ref (o + 6) :: st) := by
  obtain ⟨hi, rfl⟩ := sA_s hv
  exact G_iast C hd (RB_rd 6 rfl) hi (RB_wr 6 (by decide) rfl) hp kk
theorem R_l_sheet {i : Int32} {v : Int64} {own : String} (C : Cx κ p s m args meth c cc nL own ret) (hd : decode cc pc = .ok (.laload, 1)) (hv : aL 1536 (r.2.2 6) i = some v) (hp : pc + 1 = pc') (kk : GG p l e R s m args below meth c Q (RA o) nL cells slots (RB κ o r) pc' lv (.long v :: st)) : GG p l e R s m args below meth c Q (RA o) nL cells slots (RB κ o r) pc lv (.int i :: .ref (o + 7) :: st) := by
  obtain ⟨hi, rfl⟩ := aL_s hv
  exact G_lald C hd (RB_rd 7 rfl) hi hp kk
theorem R_s_sheet {i : Int32} {x : Int64} {r' : RS} (C : Cx κ p s m args meth c cc nL own ret) (hd : decode cc pc = .ok (.lastore, 1)) (hv : sL r 6 1536 i x = some r') (hp : pc + 1 = pc') (kk : GG p l e R s m args below meth c Q (RA o) nL cells slots (RB κ o r') pc' lv st) : GG p l e R s m args below meth c Q (RA o) nL cells slots (RB κ o r) pc lv (.long x :: .int i :: .ref (o + 7) :: st) := by
  obtain ⟨hi, rfl⟩ := sL_s hv
  exact G_last C hd (RB_rd 7 rfl) hi (RB_wr 7 (by decide) rfl) hp kk
theorem R_l_waiting {i v : Int32} (C : Cx κ p s m args meth c cc nL own ret) (hd : decode cc pc = .ok (.iaload, 1)) (hv : aI 100 (r.2.1 7) i = some v) (hp : pc + 1 = pc') (kk : GG p l e R s m args below meth c Q (RA o) nL cells slots (RB κ o r) pc' lv (.int v :: st)) : GG p l e R s m args below meth c Q (RA o) nL cells slots (RB κ o r) pc lv (.int i :: .ref (o + 8) :: st) := by
  obtain ⟨hi, rfl⟩ := aI_s hv
  exact G_iald C hd (RB_rd 8 rfl) hi hp kk
theorem R_s_waiting {i x : Int32} {r' : RS} (C : Cx κ p s m args meth c cc nL own ret) (hd : decode cc pc = .ok (.iastore, 1)) (hv : sA r 7 100 i x = some r') (hp : pc + 1 = pc') (kk : GG p l e R s m args below meth c Q (RA o) nL cells slots (RB κ o r') pc' lv st) : GG p l e R s m args below meth c Q (RA o) nL cells slots (RB κ o r) pc lv (.int x :: .int i :: .ref (o + 8) :: st) := by
  obtain ⟨hi, rfl⟩ := sA_s hv
  exact G_iast C hd (RB_rd 8 rfl) hi (RB_wr 8 (by decide) rfl) hp kk
theorem R_l_carried {i : Int32} {v : Int64} {own : String} (C : Cx κ p s m args meth c cc nL own ret) (hd : decode cc pc = .ok (.laload, 1)) (hv : aL 256 (r.2.2 8) i = some v) (hp : pc + 1 = pc') (kk : GG p l e R s m args below meth c Q (RA o) nL cells slots (RB κ o r) pc' lv (.long v :: st)) : GG p l e R s m args below meth c Q (RA o) nL cells slots (RB κ o r) pc lv (.int i :: .ref (o + 9) :: st) := by
  obtain ⟨hi, rfl⟩ := aL_s hv
  exact G_lald C hd (RB_rd 9 rfl) hi hp kk
theorem R_s_carried {i : Int32} {x : Int64} {r' : RS} (C : Cx κ p s m args meth c cc nL own ret) (hd : decode cc pc = .ok (.lastore, 1)) (hv : sL r 8 256 i x = some r') (hp : pc + 1 = pc') (kk : GG p l e R s m args below meth c Q (RA o) nL cells slots (RB κ o r') pc' lv st) : GG p l e R s m args below meth c Q (RA o) nL cells slots (RB κ o r) pc lv (.long x :: .int i :: .ref (o + 9) :: st) := by
  obtain ⟨hi, rfl⟩ := sL_s hv
  exact G_last C hd (RB_rd 9 rfl) hi (RB_wr 9 (by decide) rfl) hp kk
theorem R_l_made {i v : Int32} (C : Cx κ p s m args meth c cc nL own ret) (hd : decode cc pc = .ok (.iaload, 1)) (hv : aI 256 (r.2.1 9) i = some v) (hp : pc + 1 = pc') (kk : GG p l e R s m args below meth c Q (RA o) nL cells slots (RB κ o r) pc' lv (.int v :: st)) : GG p l e R s m args below meth c Q (RA o) nL cells slots (RB κ o r) pc lv (.int i :: .ref (o + 10) :: st) := by
  obtain ⟨hi, rfl⟩ := aI_s hv
  exact G_iald C hd (RB_rd 10 rfl) hi hp kk
theorem R_s_made {i x : Int32} {r' : RS} (C : Cx κ p s m args meth c cc nL own ret) (hd : decode cc pc = .ok (.iastore, 1)) (hv : sA r 9 256 i x = some r') (hp : pc + 1 = pc') (kk : GG p l e R s m args below meth c Q (RA o) nL cells slots (RB κ o r') pc' lv st) : GG p l e R s m args below meth c Q (RA o) nL cells slots (RB κ o r) pc lv (.int x :: .int i :: .ref (o + 10) :: st) := by
  obtain ⟨hi, rfl⟩ := sA_s hv
  exact G_iast C hd (RB_rd 10 rfl) hi (RB_wr 10 (by decide) rfl) hp kk
theorem R_l_pile {i v : Int32} (C : Cx κ p s m args meth c cc nL own ret) (hd : decode cc pc = .ok (.iaload, 1)) (hv : aI 101 (r.2.1 10) i = some v) (hp : pc + 1 = pc') (kk : GG p l e R s m args below meth c Q (RA o) nL cells slots (RB κ o r) pc' lv (.int v :: st)) : GG p l e R s m args below meth c Q (RA o) nL cells slots (RB κ o r) pc lv (.int i :: .ref (o + 11) :: st) := by
  obtain ⟨hi, rfl⟩ := aI_s hv
  exact G_iald C hd (RB_rd 11 rfl) hi hp kk
theorem R_s_pile {i x : Int32} {r' : RS} (C : Cx κ p s m args meth c cc nL own ret) (hd : decode cc pc = .ok (.iastore, 1)) (hv : sA r 10 101 i x = some r') (hp : pc + 1 = pc') (kk : GG p l e R s m args below meth c Q (RA o) nL cells slots (RB κ o r') pc' lv st) : GG p l e R s m args below meth c Q (RA o) nL cells slots (RB κ o r) pc lv (.int x :: .int i :: .ref (o + 11) :: st) := by
  obtain ⟨hi, rfl⟩ := sA_s hv
  exact G_iast C hd (RB_rd 11 rfl) hi (RB_wr 11 (by decide) rfl) hp kk
theorem R_l_power {i v : Int32} (C : Cx κ p s m args meth c cc nL own ret) (hd : decode cc pc = .ok (.iaload, 1)) (hv : aI 9 (r.2.1 11) i = some v) (hp : pc + 1 = pc') (kk : GG p l e R s m args below meth c Q (RA o) nL cells slots (RB κ o r) pc' lv (.int v :: st)) : GG p l e R s m args below meth c Q (RA o) nL cells slots (RB κ o r) pc lv (.int i :: .ref (o + 12) :: st) := by
  obtain ⟨hi, rfl⟩ := aI_s hv
  exact G_iald C hd (RB_rd 12 rfl) hi hp kk
theorem R_s_power {i x : Int32} {r' : RS} (C : Cx κ p s m args meth c cc nL own ret) (hd : decode cc pc = .ok (.iastore, 1)) (hv : sA r 11 9 i x = some r') (hp : pc + 1 = pc') (kk : GG p l e R s m args below meth c Q (RA o) nL cells slots (RB κ o r') pc' lv st) : GG p l e R s m args below meth c Q (RA o) nL cells slots (RB κ o r) pc lv (.int x :: .int i :: .ref (o + 12) :: st) := by
  obtain ⟨hi, rfl⟩ := sA_s hv
  exact G_iast C hd (RB_rd 12 rfl) hi (RB_wr 12 (by decide) rfl) hp kk
theorem R_l_has {i v : Int32} (C : Cx κ p s m args meth c cc nL own ret) (hd : decode cc pc = .ok (.iaload, 1)) (hv : aI 6561 (r.2.1 12) i = some v) (hp : pc + 1 = pc') (kk : GG p l e R s m args below meth c Q (RA o) nL cells slots (RB κ o r) pc' lv (.int v :: st)) : GG p l e R s m args below meth c Q (RA o) nL cells slots (RB κ o r) pc lv (.int i :: .ref (o + 13) :: st) := by
  obtain ⟨hi, rfl⟩ := aI_s hv
  exact G_iald C hd (RB_rd 13 rfl) hi hp kk
theorem R_s_has {i x : Int32} {r' : RS} (C : Cx κ p s m args meth c cc nL own ret) (hd : decode cc pc = .ok (.iastore, 1)) (hv : sA r 12 6561 i x = some r') (hp : pc + 1 = pc') (kk : GG p l e R s m args below meth c Q (RA o) nL cells slots (RB κ o r') pc' lv st) : GG p l e R s m args below meth c Q (RA o) nL cells slots (RB κ o r) pc lv (.int x :: .int i :: .ref (o + 13) :: st) := by
  obtain ⟨hi, rfl⟩ := sA_s hv
  exact G_iast C hd (RB_rd 13 rfl) hi (RB_wr 13 (by decide) rfl) hp kk
theorem R_l_depth {i v : Int32} (C : Cx κ p s m args meth c cc nL own ret) (hd : decode cc pc = .ok (.iaload, 1)) (hv : aI 6561 (r.2.1 13) i = some v) (hp : pc + 1 = pc') (kk : GG p l e R s m args below meth c Q (RA o) nL cells slots (RB κ o r) pc' lv (.int v :: st)) : GG p l e R s m args below meth c Q (RA o) nL cells slots (RB κ o r) pc lv (.int i :: .ref (o + 14) :: st) := by
  obtain ⟨hi, rfl⟩ := aI_s hv
  exact G_iald C hd (RB_rd 14 rfl) hi hp kk
theorem R_s_depth {i x : Int32} {r' : RS} (C : Cx κ p s m args meth c cc nL own ret) (hd : decode cc pc = .ok (.iastore, 1)) (hv : sA r 13 6561 i x = some r') (hp : pc + 1 = pc') (kk : GG p l e R s m args below meth c Q (RA o) nL cells slots (RB κ o r') pc' lv st) : GG p l e R s m args below meth c Q (RA o) nL cells slots (RB κ o r) pc lv (.int x :: .int i :: .ref (o + 14) :: st) := by
  obtain ⟨hi, rfl⟩ := sA_s hv
  exact G_iast C hd (RB_rd 14 rfl) hi (RB_wr 14 (by decide) rfl) hp kk
theorem R_l_sum {i v : Int32} (C : Cx κ p s m args meth c cc nL own ret) (hd : decode cc pc = .ok (.iaload, 1)) (hv : aI 6561 (r.2.1 14) i = some v) (hp : pc + 1 = pc') (kk : GG p l e R s m args below meth c Q (RA o) nL cells slots (RB κ o r) pc' lv (.int v :: st)) : GG p l e R s m args below meth c Q (RA o) nL cells slots (RB κ o r) pc lv (.int i :: .ref (o + 15) :: st) := by
  obtain ⟨hi, rfl⟩ := aI_s hv
  exact G_iald C hd (RB_rd 15 rfl) hi hp kk
theorem R_s_sum {i x : Int32} {r' : RS} (C : Cx κ p s m args meth c cc nL own ret) (hd : decode cc pc = .ok (.iastore, 1)) (hv : sA r 14 6561 i x = some r') (hp : pc + 1 = pc') (kk : GG p l e R s m args below meth c Q (RA o) nL cells slots (RB κ o r') pc' lv st) : GG p l e R s m args below meth c Q (RA o) nL cells slots (RB κ o r) pc lv (.int x :: .int i :: .ref (o + 15) :: st) := by
  obtain ⟨hi, rfl⟩ := sA_s hv
  exact G_iast C hd (RB_rd 15 rfl) hi (RB_wr 15 (by decide) rfl) hp kk
theorem R_l_wide {i v : Int32} (C : Cx κ p s m args meth c cc nL own ret) (hd : decode cc pc = .ok (.iaload, 1)) (hv : aI 6561 (r.2.1 15) i = some v) (hp : pc + 1 = pc') (kk : GG p l e R s m args below meth c Q (RA o) nL cells slots (RB κ o r) pc' lv (.int v :: st)) : GG p l e R s m args below meth c Q (RA o) nL cells slots (RB κ o r) pc lv (.int i :: .ref (o + 16) :: st) := by
  obtain ⟨hi, rfl⟩ := aI_s hv
  exact G_iald C hd (RB_rd 16 rfl) hi hp kk
theorem R_s_wide {i x : Int32} {r' : RS} (C : Cx κ p s m args meth c cc nL own ret) (hd : decode cc pc = .ok (.iastore, 1)) (hv : sA r 15 6561 i x = some r') (hp : pc + 1 = pc') (kk : GG p l e R s m args below meth c Q (RA o) nL cells slots (RB κ o r') pc' lv st) : GG p l e R s m args below meth c Q (RA o) nL cells slots (RB κ o r) pc lv (.int x :: .int i :: .ref (o + 16) :: st) := by
  obtain ⟨hi, rfl⟩ := sA_s hv
  exact G_iast C hd (RB_rd 16 rfl) hi (RB_wr 16 (by decide) rfl) hp kk
theorem R_l_nodeSays {i v : Int32} (C : Cx κ p s m args meth c cc nL own ret) (hd : decode cc pc = .ok (.iaload, 1)) (hv : aI 512 (r.2.1 16) i = some v) (hp : pc + 1 = pc') (kk : GG p l e R s m args below meth c Q (RA o) nL cells slots (RB κ o r) pc' lv (.int v :: st)) : GG p l e R s m args below meth c Q (RA o) nL cells slots (RB κ o r) pc lv (.int i :: .ref (o + 17) :: st) := by
  obtain ⟨hi, rfl⟩ := aI_s hv
  exact G_iald C hd (RB_rd 17 rfl) hi hp kk
theorem R_s_nodeSays {i x : Int32} {r' : RS} (C : Cx κ p s m args meth c cc nL own ret) (hd : decode cc pc = .ok (.iastore, 1)) (hv : sA r 16 512 i x = some r') (hp : pc + 1 = pc') (kk : GG p l e R s m args below meth c Q (RA o) nL cells slots (RB κ o r') pc' lv st) : GG p l e R s m args below meth c Q (RA o) nL cells slots (RB κ o r) pc lv (.int x :: .int i :: .ref (o + 17) :: st) := by
  obtain ⟨hi, rfl⟩ := sA_s hv
  exact G_iast C hd (RB_rd 17 rfl) hi (RB_wr 17 (by decide) rfl) hp kk
theorem R_l_nodeLooks {i v : Int32} (C : Cx κ p s m args meth c cc nL own ret) (hd : decode cc pc = .ok (.iaload, 1)) (hv : aI 512 (r.2.1 17) i = some v) (hp : pc + 1 = pc') (kk : GG p l e R s m args below meth c Q (RA o) nL cells slots (RB κ o r) pc' lv (.int v :: st)) : GG p l e R s m args below meth c Q (RA o) nL cells slots (RB κ o r) pc lv (.int i :: .ref (o + 18) :: st) := by
  obtain ⟨hi, rfl⟩ := aI_s hv
  exact G_iald C hd (RB_rd 18 rfl) hi hp kk
theorem R_s_nodeLooks {i x : Int32} {r' : RS} (C : Cx κ p s m args meth c cc nL own ret) (hd : decode cc pc = .ok (.iastore, 1)) (hv : sA r 17 512 i x = some r') (hp : pc + 1 = pc') (kk : GG p l e R s m args below meth c Q (RA o) nL cells slots (RB κ o r') pc' lv st) : GG p l e R s m args below meth c Q (RA o) nL cells slots (RB κ o r) pc lv (.int x :: .int i :: .ref (o + 18) :: st) := by
  obtain ⟨hi, rfl⟩ := sA_s hv
  exact G_iast C hd (RB_rd 18 rfl) hi (RB_wr 18 (by decide) rfl) hp kk
theorem R_l_nodeZero {i v : Int32} (C : Cx κ p s m args meth c cc nL own ret) (hd : decode cc pc = .ok (.iaload, 1)) (hv : aI 512 (r.2.1 18) i = some v) (hp : pc + 1 = pc') (kk : GG p l e R s m args below meth c Q (RA o) nL cells slots (RB κ o r) pc' lv (.int v :: st)) : GG p l e R s m args below meth c Q (RA o) nL cells slots (RB κ o r) pc lv (.int i :: .ref (o + 19) :: st) := by
  obtain ⟨hi, rfl⟩ := aI_s hv
  exact G_iald C hd (RB_rd 19 rfl) hi hp kk
theorem R_s_nodeZero {i x : Int32} {r' : RS} (C : Cx κ p s m args meth c cc nL own ret) (hd : decode cc pc = .ok (.iastore, 1)) (hv : sA r 18 512 i x = some r') (hp : pc + 1 = pc') (kk : GG p l e R s m args below meth c Q (RA o) nL cells slots (RB κ o r') pc' lv st) : GG p l e R s m args below meth c Q (RA o) nL cells slots (RB κ o r) pc lv (.int x :: .int i :: .ref (o + 19) :: st) := by
  obtain ⟨hi, rfl⟩ := sA_s hv
  exact G_iast C hd (RB_rd 19 rfl) hi (RB_wr 19 (by decide) rfl) hp kk
theorem R_l_nodeOne {i v : Int32} (C : Cx κ p s m args meth c cc nL own ret) (hd : decode cc pc = .ok (.iaload, 1)) (hv : aI 512 (r.2.1 19) i = some v) (hp : pc + 1 = pc') (kk : GG p l e R s m args below meth c Q (RA o) nL cells slots (RB κ o r) pc' lv (.int v :: st)) : GG p l e R s m args below meth c Q (RA o) nL cells slots (RB κ o r) pc lv (.int i :: .ref (o + 20) :: st) := by
  obtain ⟨hi, rfl⟩ := aI_s hv
  exact G_iald C hd (RB_rd 20 rfl) hi hp kk
theorem R_s_nodeOne {i x : Int32} {r' : RS} (C : Cx κ p s m args meth c cc nL own ret) (hd : decode cc pc = .ok (.iastore, 1)) (hv : sA r 19 512 i x = some r') (hp : pc + 1 = pc') (kk : GG p l e R s m args below meth c Q (RA o) nL cells slots (RB κ o r') pc' lv st) : GG p l e R s m args below meth c Q (RA o) nL cells slots (RB κ o r) pc lv (.int x :: .int i :: .ref (o + 20) :: st) := by
  obtain ⟨hi, rfl⟩ := sA_s hv
  exact G_iast C hd (RB_rd 20 rfl) hi (RB_wr 20 (by decide) rfl) hp kk
theorem R_l_comeCube {i v : Int32} (C : Cx κ p s m args meth c cc nL own ret) (hd : decode cc pc = .ok (.iaload, 1)) (hv : aI 40 (r.2.1 20) i = some v) (hp : pc + 1 = pc') (kk : GG p l e R s m args below meth c Q (RA o) nL cells slots (RB κ o r) pc' lv (.int v :: st)) : GG p l e R s m args below meth c Q (RA o) nL cells slots (RB κ o r) pc lv (.int i :: .ref (o + 21) :: st) := by
  obtain ⟨hi, rfl⟩ := aI_s hv
  exact G_iald C hd (RB_rd 21 rfl) hi hp kk
theorem R_s_comeCube {i x : Int32} {r' : RS} (C : Cx κ p s m args meth c cc nL own ret) (hd : decode cc pc = .ok (.iastore, 1)) (hv : sA r 20 40 i x = some r') (hp : pc + 1 = pc') (kk : GG p l e R s m args below meth c Q (RA o) nL cells slots (RB κ o r') pc' lv st) : GG p l e R s m args below meth c Q (RA o) nL cells slots (RB κ o r) pc lv (.int x :: .int i :: .ref (o + 21) :: st) := by
  obtain ⟨hi, rfl⟩ := sA_s hv
  exact G_iast C hd (RB_rd 21 rfl) hi (RB_wr 21 (by decide) rfl) hp kk
theorem R_l_comeLooks {i v : Int32} (C : Cx κ p s m args meth c cc nL own ret) (hd : decode cc pc = .ok (.iaload, 1)) (hv : aI 40 (r.2.1 21) i = some v) (hp : pc + 1 = pc') (kk : GG p l e R s m args below meth c Q (RA o) nL cells slots (RB κ o r) pc' lv (.int v :: st)) : GG p l e R s m args below meth c Q (RA o) nL cells slots (RB κ o r) pc lv (.int i :: .ref (o + 22) :: st) := by
  obtain ⟨hi, rfl⟩ := aI_s hv
  exact G_iald C hd (RB_rd 22 rfl) hi hp kk
theorem R_s_comeLooks {i x : Int32} {r' : RS} (C : Cx κ p s m args meth c cc nL own ret) (hd : decode cc pc = .ok (.iastore, 1)) (hv : sA r 21 40 i x = some r') (hp : pc + 1 = pc') (kk : GG p l e R s m args below meth c Q (RA o) nL cells slots (RB κ o r') pc' lv st) : GG p l e R s m args below meth c Q (RA o) nL cells slots (RB κ o r) pc lv (.int x :: .int i :: .ref (o + 22) :: st) := by
  obtain ⟨hi, rfl⟩ := sA_s hv
  exact G_iast C hd (RB_rd 22 rfl) hi (RB_wr 22 (by decide) rfl) hp kk
theorem R_l_comeOf {i v : Int32} (C : Cx κ p s m args meth c cc nL own ret) (hd : decode cc pc = .ok (.iaload, 1)) (hv : aI 40 (r.2.1 22) i = some v) (hp : pc + 1 = pc') (kk : GG p l e R s m args below meth c Q (RA o) nL cells slots (RB κ o r) pc' lv (.int v :: st)) : GG p l e R s m args below meth c Q (RA o) nL cells slots (RB κ o r) pc lv (.int i :: .ref (o + 23) :: st) := by
  obtain ⟨hi, rfl⟩ := aI_s hv
  exact G_iald C hd (RB_rd 23 rfl) hi hp kk
theorem R_s_comeOf {i x : Int32} {r' : RS} (C : Cx κ p s m args meth c cc nL own ret) (hd : decode cc pc = .ok (.iastore, 1)) (hv : sA r 22 40 i x = some r') (hp : pc + 1 = pc') (kk : GG p l e R s m args below meth c Q (RA o) nL cells slots (RB κ o r') pc' lv st) : GG p l e R s m args below meth c Q (RA o) nL cells slots (RB κ o r) pc lv (.int x :: .int i :: .ref (o + 23) :: st) := by
  obtain ⟨hi, rfl⟩ := sA_s hv
  exact G_iast C hd (RB_rd 23 rfl) hi (RB_wr 23 (by decide) rfl) hp kk
theorem R_l_comeAs {i v : Int32} (C : Cx κ p s m args meth c cc nL own ret) (hd : decode cc pc = .ok (.iaload, 1)) (hv : aI 40 (r.2.1 23) i = some v) (hp : pc + 1 = pc') (kk : GG p l e R s m args below meth c Q (RA o) nL cells slots (RB κ o r) pc' lv (.int v :: st)) : GG p l e R s m args below meth c Q (RA o) nL cells slots (RB κ o r) pc lv (.int i :: .ref (o + 24) :: st) := by
  obtain ⟨hi, rfl⟩ := aI_s hv
  exact G_iald C hd (RB_rd 24 rfl) hi hp kk
theorem R_s_comeAs {i x : Int32} {r' : RS} (C : Cx κ p s m args meth c cc nL own ret) (hd : decode cc pc = .ok (.iastore, 1)) (hv : sA r 23 40 i x = some r') (hp : pc + 1 = pc') (kk : GG p l e R s m args below meth c Q (RA o) nL cells slots (RB κ o r') pc' lv st) : GG p l e R s m args below meth c Q (RA o) nL cells slots (RB κ o r) pc lv (.int x :: .int i :: .ref (o + 24) :: st) := by
  obtain ⟨hi, rfl⟩ := sA_s hv
  exact G_iast C hd (RB_rd 24 rfl) hi (RB_wr 24 (by decide) rfl) hp kk
theorem R_l_blocks {i v : Int32} (C : Cx κ p s m args meth c cc nL own ret) (hd : decode cc pc = .ok (.iaload, 1)) (hv : aI 256 (r.2.1 24) i = some v) (hp : pc + 1 = pc') (kk : GG p l e R s m args below meth c Q (RA o) nL cells slots (RB κ o r) pc' lv (.int v :: st)) : GG p l e R s m args below meth c Q (RA o) nL cells slots (RB κ o r) pc lv (.int i :: .ref (o + 25) :: st) := by
  obtain ⟨hi, rfl⟩ := aI_s hv
  exact G_iald C hd (RB_rd 25 rfl) hi hp kk
theorem R_s_blocks {i x : Int32} {r' : RS} (C : Cx κ p s m args meth c cc nL own ret) (hd : decode cc pc = .ok (.iastore, 1)) (hv : sA r 24 256 i x = some r') (hp : pc + 1 = pc') (kk : GG p l e R s m args below meth c Q (RA o) nL cells slots (RB κ o r') pc' lv st) : GG p l e R s m args below meth c Q (RA o) nL cells slots (RB κ o r) pc lv (.int x :: .int i :: .ref (o + 25) :: st) := by
  obtain ⟨hi, rfl⟩ := sA_s hv
  exact G_iast C hd (RB_rd 25 rfl) hi (RB_wr 25 (by decide) rfl) hp kk
theorem R_l_needs {i v : Int32} (C : Cx κ p s m args meth c cc nL own ret) (hd : decode cc pc = .ok (.iaload, 1)) (hv : aI 65536 (r.2.1 25) i = some v) (hp : pc + 1 = pc') (kk : GG p l e R s m args below meth c Q (RA o) nL cells slots (RB κ o r) pc' lv (.int v :: st)) : GG p l e R s m args below meth c Q (RA o) nL cells slots (RB κ o r) pc lv (.int i :: .ref (o + 26) :: st) := by
  obtain ⟨hi, rfl⟩ := aI_s hv
  exact G_iald C hd (RB_rd 26 rfl) hi hp kk
theorem R_s_needs {i x : Int32} {r' : RS} (C : Cx κ p s m args meth c cc nL own ret) (hd : decode cc pc = .ok (.iastore, 1)) (hv : sA r 25 65536 i x = some r') (hp : pc + 1 = pc') (kk : GG p l e R s m args below meth c Q (RA o) nL cells slots (RB κ o r') pc' lv st) : GG p l e R s m args below meth c Q (RA o) nL cells slots (RB κ o r) pc lv (.int x :: .int i :: .ref (o + 26) :: st) := by
  obtain ⟨hi, rfl⟩ := sA_s hv
  exact G_iast C hd (RB_rd 26 rfl) hi (RB_wr 26 (by decide) rfl) hp kk
theorem R_l_form {i v : Int32} (C : Cx κ p s m args meth c cc nL own ret) (hd : decode cc pc = .ok (.iaload, 1)) (hv : aI 16 (r.2.1 26) i = some v) (hp : pc + 1 = pc') (kk : GG p l e R s m args below meth c Q (RA o) nL cells slots (RB κ o r) pc' lv (.int v :: st)) : GG p l e R s m args below meth c Q (RA o) nL cells slots (RB κ o r) pc lv (.int i :: .ref (o + 27) :: st) := by
  obtain ⟨hi, rfl⟩ := aI_s hv
  exact G_iald C hd (RB_rd 27 rfl) hi hp kk
theorem R_s_form {i x : Int32} {r' : RS} (C : Cx κ p s m args meth c cc nL own ret) (hd : decode cc pc = .ok (.iastore, 1)) (hv : sA r 26 16 i x = some r') (hp : pc + 1 = pc') (kk : GG p l e R s m args below meth c Q (RA o) nL cells slots (RB κ o r') pc' lv st) : GG p l e R s m args below meth c Q (RA o) nL cells slots (RB κ o r) pc lv (.int x :: .int i :: .ref (o + 27) :: st) := by
  obtain ⟨hi, rfl⟩ := sA_s hv
  exact G_iast C hd (RB_rd 27 rfl) hi (RB_wr 27 (by decide) rfl) hp kk
theorem R_l_inputSet {i v : Int32} (C : Cx κ p s m args meth c cc nL own ret) (hd : decode cc pc = .ok (.iaload, 1)) (hv : aI 81 (r.2.1 27) i = some v) (hp : pc + 1 = pc') (kk : GG p l e R s m args below meth c Q (RA o) nL cells slots (RB κ o r) pc' lv (.int v :: st)) : GG p l e R s m args below meth c Q (RA o) nL cells slots (RB κ o r) pc lv (.int i :: .ref (o + 28) :: st) := by
  obtain ⟨hi, rfl⟩ := aI_s hv
  exact G_iald C hd (RB_rd 28 rfl) hi hp kk
theorem R_s_inputSet {i x : Int32} {r' : RS} (C : Cx κ p s m args meth c cc nL own ret) (hd : decode cc pc = .ok (.iastore, 1)) (hv : sA r 27 81 i x = some r') (hp : pc + 1 = pc') (kk : GG p l e R s m args below meth c Q (RA o) nL cells slots (RB κ o r') pc' lv st) : GG p l e R s m args below meth c Q (RA o) nL cells slots (RB κ o r) pc lv (.int x :: .int i :: .ref (o + 28) :: st) := by
  obtain ⟨hi, rfl⟩ := sA_s hv
  exact G_iast C hd (RB_rd 28 rfl) hi (RB_wr 28 (by decide) rfl) hp kk
theorem R_l_letters {i v : Int32} (C : Cx κ p s m args meth c cc nL own ret) (hd : decode cc pc = .ok (.iaload, 1)) (hv : aI 256 (r.2.1 28) i = some v) (hp : pc + 1 = pc') (kk : GG p l e R s m args below meth c Q (RA o) nL cells slots (RB κ o r) pc' lv (.int v :: st)) : GG p l e R s m args below meth c Q (RA o) nL cells slots (RB κ o r) pc lv (.int i :: .ref (o + 29) :: st) := by
  obtain ⟨hi, rfl⟩ := aI_s hv
  exact G_iald C hd (RB_rd 29 rfl) hi hp kk
theorem R_s_letters {i x : Int32} {r' : RS} (C : Cx κ p s m args meth c cc nL own ret) (hd : decode cc pc = .ok (.iastore, 1)) (hv : sA r 28 256 i x = some r') (hp : pc + 1 = pc') (kk : GG p l e R s m args below meth c Q (RA o) nL cells slots (RB κ o r') pc' lv st) : GG p l e R s m args below meth c Q (RA o) nL cells slots (RB κ o r) pc lv (.int x :: .int i :: .ref (o + 29) :: st) := by
  obtain ⟨hi, rfl⟩ := sA_s hv
  exact G_iast C hd (RB_rd 29 rfl) hi (RB_wr 29 (by decide) rfl) hp kk
theorem R_l_gameDepth {i v : Int32} (C : Cx κ p s m args meth c cc nL own ret) (hd : decode cc pc = .ok (.iaload, 1)) (hv : aI 6561 (r.2.1 29) i = some v) (hp : pc + 1 = pc') (kk : GG p l e R s m args below meth c Q (RA o) nL cells slots (RB κ o r) pc' lv (.int v :: st)) : GG p l e R s m args below meth c Q (RA o) nL cells slots (RB κ o r) pc lv (.int i :: .ref (o + 30) :: st) := by
  obtain ⟨hi, rfl⟩ := aI_s hv
  exact G_iald C hd (RB_rd 30 rfl) hi hp kk
theorem R_s_gameDepth {i x : Int32} {r' : RS} (C : Cx κ p s m args meth c cc nL own ret) (hd : decode cc pc = .ok (.iastore, 1)) (hv : sA r 29 6561 i x = some r') (hp : pc + 1 = pc') (kk : GG p l e R s m args below meth c Q (RA o) nL cells slots (RB κ o r') pc' lv st) : GG p l e R s m args below meth c Q (RA o) nL cells slots (RB κ o r) pc lv (.int x :: .int i :: .ref (o + 30) :: st) := by
  obtain ⟨hi, rfl⟩ := sA_s hv
  exact G_iast C hd (RB_rd 30 rfl) hi (RB_wr 30 (by decide) rfl) hp kk
theorem R_l_gameHas {i v : Int32} (C : Cx κ p s m args meth c cc nL own ret) (hd : decode cc pc = .ok (.iaload, 1)) (hv : aI 6561 (r.2.1 30) i = some v) (hp : pc + 1 = pc') (kk : GG p l e R s m args below meth c Q (RA o) nL cells slots (RB κ o r) pc' lv (.int v :: st)) : GG p l e R s m args below meth c Q (RA o) nL cells slots (RB κ o r) pc lv (.int i :: .ref (o + 31) :: st) := by
  obtain ⟨hi, rfl⟩ := aI_s hv
  exact G_iald C hd (RB_rd 31 rfl) hi hp kk
theorem R_s_gameHas {i x : Int32} {r' : RS} (C : Cx κ p s m args meth c cc nL own ret) (hd : decode cc pc = .ok (.iastore, 1)) (hv : sA r 30 6561 i x = some r') (hp : pc + 1 = pc') (kk : GG p l e R s m args below meth c Q (RA o) nL cells slots (RB κ o r') pc' lv st) : GG p l e R s m args below meth c Q (RA o) nL cells slots (RB κ o r) pc lv (.int x :: .int i :: .ref (o + 31) :: st) := by
  obtain ⟨hi, rfl⟩ := sA_s hv
  exact G_iast C hd (RB_rd 31 rfl) hi (RB_wr 31 (by decide) rfl) hp kk
end RROWS
