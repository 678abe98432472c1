/-! ===== the law ===== -/
theorem MM.sized {κ : KK} {l : Launch} {y : MethodName} {cc : ByteArray} {nL : Nat} {ret : Option FieldType} {rm : Room} {A : Nat → Prop} {avs : List Value} {B : Heap → Prop} {v : Option Value} {B' : Heap → Prop} (h : MM κ l y cc nL ret rm A avs B v B') (hz : rm.cells = 0) (N : Nat) : MM κ l y cc nL ret rm A avs (fun H => B H ∧ H.size = N) v (fun H => B' H ∧ H.size = N) := by
  unfold MM Met at h ⊢
  refine MetFree.mono h (fun a s hp => ⟨hp.1, hp.2.1.1, hp.2.2⟩) (fun _ _ _ _ _ hk => hk) (fun a s o t hp hq => ?_)
  obtain ⟨⟨h1, h2, h3⟩, L, hF, hL⟩ := hq
  refine ⟨⟨h1, ⟨h2, ?_⟩, h3⟩, L, hF, hL⟩
  have h4 : t.heap.size ≤ s.heap.size + rm.cells := hF.2.2.2.2.1
  have h5 := h3.1
  have h6 : s.heap.size = N := hp.2.1.2
  omega
section WROWS
variable {κ : KK} {p : Program} {l : Launch} {e : Env} {R : Room} {s : State} {m : MethodId} {args : Array Value} {below : List Frame} {meth : Method} {c : Code} {Q : State → Prop} {A : Nat → Prop} {nL cells slots : Nat} {B : Heap → Prop} {pc pc' : Nat} {lv : List (Nat × Value)} {st : List Value} {cc : ByteArray} {own : String} {ret : Option FieldType}
theorem G_sldV {b L : Nat} {xs : Nat → Int32} {i v : Int32} (C : Cx κ p s m args meth c cc nL own ret) (hX : va_X b L xs s s.heap) (hbl : b < s.heap.size) (hbA : ¬ A b) (hd : decode cc pc = .ok (.iaload, 1)) (hi : vp_in i L) (hv : xs i.toNatClampNeg = v) (hp : pc + 1 = pc') (kk : GG p l e R s m args below meth c Q A nL cells slots B pc' lv (.int v :: st)) : GG p l e R s m args below meth c Q A nL cells slots B pc lv (.int i :: .ref b :: st) := by
  subst hp
  subst hv
  exact fun H locs ls hl hB hS => va_sld C.1 C.2.1 hX hbl hbA hS hi hd (kk H locs ls hl hB hS)
theorem G_slen {b L : Nat} {xs : Nat → Int32} (C : Cx κ p s m args meth c cc nL own ret) (hX : va_X b L xs s s.heap) (hbl : b < s.heap.size) (hbA : ¬ A b) (hd : decode cc pc = .ok (.arraylength, 1)) (hp : pc + 1 = pc') (kk : GG p l e R s m args below meth c Q A nL cells slots B pc' lv (.int (nI L) :: st)) : GG p l e R s m args below meth c Q A nL cells slots B pc lv (.ref b :: st) := by
  subst hp
  exact fun H locs ls hl hB hS => va_slen C.1 C.2.1 hX hbl hbA hS hd (kk H locs ls hl hB hS)
end WROWS
def LWB (κ : KK) (o : Nat) (z : CS) (r : RS) (H : Heap) : Prop := CB κ o z H ∧ RB κ (o + 32) r H
def CBf (κ : KK) (o : Nat) (z : CS) (H : Heap) : Prop := (∀ (k : Nat) (q : va_E), (cfx κ o z)[k]? = some q → va_at κ.1 vwCl (o + k, q) H) ∧ (∀ (q : Nat) (x : PE), cpl z q = some x → o + 64 ≤ q ∧ va_at κ.1 vwCl (q, pe κ x) H) ∧ o + 64 ≤ cn z
theorem RB_fr {κ : KK} {o : Nat} {r : RS} {H H1 : Heap} (hk : ∀ q : Nat, q < H.size → ¬ CA o q → H1[q]? = H[q]?) (h : RB κ (o + 32) r H) : RB κ (o + 32) r H1 := fun k q hq => by
  have h1 := h k q hq
  have hl : k < 32 := (List.getElem?_eq_some_iff.mp hq).1
  refine h1.kept (hk _ h1.lt (fun z => ?_))
  have z' : (o ≤ o + 32 + k ∧ o + 32 + k < o + 32) ∨ o + 64 ≤ o + 32 + k := z
  omega
theorem CBf_fr {κ : KK} {o : Nat} {z : CS} {H H1 : Heap} (hk : ∀ q : Nat, q < H.size → ¬ RA (o + 32) q → H1[q]? = H[q]?) (h : CBf κ o z H) : CBf κ o z H1 := by
  refine ⟨fun k q hq => ?_, fun q x hx => ?_, h.2.2⟩
  · have h1 := h.1 k q hq
    have hl : k < 32 := (List.getElem?_eq_some_iff.mp hq).1
    refine h1.kept (hk _ h1.lt (fun w => ?_))
    have w' : o + 32 ≤ o + k ∧ o + k < o + 32 + 32 := w
    omega
  · obtain ⟨h1, h2⟩ := h.2.1 q x hx
    refine ⟨h1, h2.kept (hk _ h2.lt (fun w => ?_))⟩
    have w' : o + 32 ≤ q ∧ q < o + 32 + 32 := w
    omega
theorem LW_c {κ : KK} {o : Nat} {z : CS} {r : RS} {q : va_E} (h : (cfx κ o z)[0]? = some q) : rdv κ (LWB κ o z r) o q := fun H hB => hB.1.1 0 q h
theorem LW_r {κ : KK} {o : Nat} {z : CS} {r : RS} {q : va_E} (h : (rfx κ (o + 32) r)[0]? = some q) : rdv κ (LWB κ o z r) (o + 32) q := fun H hB => hB.2 0 q h
theorem LW_toR {κ : KK} {o : Nat} {z : CS} {r : RS} {H : Heap} (h : LWB κ o z r H) : (RB κ (o + 32) r H ∧ H.size = cn z) ∧ CBf κ o z H := ⟨⟨h.2, h.1.2.2.1⟩, h.1.1, h.1.2.1, h.1.2.2.2⟩
theorem LW_ofR {κ : KK} {o : Nat} {z : CS} {r : RS} {H : Heap} (h : (RB κ (o + 32) r H ∧ H.size = cn z) ∧ CBf κ o z H) : LWB κ o z r H := ⟨⟨h.2.1, h.2.2.1, h.1.2, h.2.2.2⟩, h.1.1⟩
theorem kc_start {s : State} {args : Array Value} (hts : ∀ w ∈ lw_tbl, w.before args s = true) : ∃ κ : KK, KC κ s := by
  have hg : ∀ w ∈ gw, w.before args s = true := fun w h => hts w (gw_sub w h)
  obtain ⟨c0, i0, hK0⟩ := u_known (C := RX0) (T := TX0) (N := 4) (n := 4) hg tw_u_X0 (hg _ tw_is_X0)
  obtain ⟨c1, i1, hK1⟩ := u_known (C := RX1) (T := TX1) (N := 5) (n := 5) hg tw_u_X1 (hg _ tw_is_X1)
  obtain ⟨c2, i2, hK2⟩ := u_known (C := RX2) (T := TX2) (N := 5) (n := 5) hg tw_u_X2 (hg _ tw_is_X2)
  obtain ⟨c3, i3, hK3⟩ := u_known (C := RX3) (T := TX3) (N := 4) (n := 4) hg tw_u_X3 (hg _ tw_is_X3)
  obtain ⟨c4, i4, hK4⟩ := u_known (C := RX4) (T := TX4) (N := 2) (n := 2) hg tw_u_X4 (hg _ tw_is_X4)
  obtain ⟨c5, i5, hK5⟩ := u_known (C := RX5) (T := TX5) (N := 4) (n := 4) hg tw_u_X5 (hg _ tw_is_X5)
  obtain ⟨c6, i6, hK6⟩ := u_known (C := RX6) (T := TX6) (N := 1) (n := 1) hg tw_u_X6 (hg _ tw_is_X6)
  obtain ⟨c7, i7, hK7⟩ := u_known (C := RX7) (T := TX7) (N := 2) (n := 2) hg tw_u_X7 (hg _ tw_is_X7)
  obtain ⟨c8, i8, hK8⟩ := u_known (C := RX8) (T := TX8) (N := 4) (n := 4) hg tw_u_X8 (hg _ tw_is_X8)
  obtain ⟨c9, i9, hK9⟩ := u_known (C := RX9) (T := TX9) (N := 16) (n := 16) hg tw_u_X9 (hg _ tw_is_X9)
  obtain ⟨c10, i10, hK10⟩ := u_known (C := RX10) (T := TX10) (N := 41) (n := 41) hg tw_u_X10 (hg _ tw_is_X10)
  obtain ⟨a0, ka0, co0, f0, g0, e0⟩ := Cond.arrayClass_spec (hg _ tw_ac_int)
  obtain ⟨a1, ka1, co1, f1, g1, e1⟩ := Cond.arrayClass_spec (hg _ tw_ac_long)
  obtain ⟨a2, ka2, co2, f2, g2, e2⟩ := Cond.arrayClass_spec (hg _ tw_ac_byte)
  obtain ⟨a3, ka3, co3, f3, g3, e3⟩ := Cond.arrayClass_spec (hg _ tw_ac_boolean)
  obtain ⟨co4, a4, ka4, m4, -, g4, e4, f4⟩ := Cond.arrayOver_spec (hts _ tn_ao_X7)
  obtain ⟨co5, a5, ka5, m5, -, g5, e5, f5⟩ := Cond.arrayOver_spec (hts _ tn_ao_X8)
  refine ⟨((fun k => if k = 0 then c0 else if k = 1 then c1 else if k = 2 then c2 else if k = 3 then c3 else if k = 4 then c4 else if k = 5 then c5 else if k = 6 then c6 else if k = 7 then c7 else if k = 8 then c8 else if k = 9 then c9 else c10, fun k => if k = 0 then i0 else if k = 1 then i1 else if k = 2 then i2 else if k = 3 then i3 else if k = 4 then i4 else if k = 5 then i5 else if k = 6 then i6 else if k = 7 then i7 else if k = 8 then i8 else if k = 9 then i9 else i10), fun k => if k = 0 then a0 else if k = 1 then a1 else if k = 2 then a2 else if k = 3 then a3 else if k = 4 then a4 else a5), ⟨?_, ?_⟩, ?_⟩
  · intro k q hq
    match k, hq with
    | 0, hq => cases hq; exact hK0
    | 1, hq => cases hq; exact hK1
    | 2, hq => cases hq; exact hK2
    | 3, hq => cases hq; exact hK3
    | 4, hq => cases hq; exact hK4
    | 5, hq => cases hq; exact hK5
    | 6, hq => cases hq; exact hK6
    | 7, hq => cases hq; exact hK7
    | 8, hq => cases hq; exact hK8
    | 9, hq => cases hq; exact hK9
    | 10, hq => cases hq; exact hK10
    | k + 11, hq => simp [vwCl] at hq
  · intro k q hq
    match k, hq with
    | 0, hq => cases hq; exact ⟨fun n z => ⟨fun k h => (by cases h), ka0, g0, co0, e0⟩, f0⟩
    | 1, hq => cases hq; exact ⟨fun n z => ⟨fun k h => (by cases h), ka1, g1, co1, e1⟩, f1⟩
    | 2, hq => cases hq; exact ⟨fun n z => ⟨fun k h => (by cases h), ka2, g2, co2, e2⟩, f2⟩
    | 3, hq => cases hq; exact ⟨fun n z => ⟨fun k h => (by cases h), ka3, g3, co3, e3⟩, f3⟩
    | 4, hq => cases hq; exact ⟨fun n z => ⟨fun k h => (by cases h), ka4, g4, co4, e4⟩, ka4, co4, g4, e4, m4, f4⟩
    | 5, hq => cases hq; exact ⟨fun n z => ⟨fun k h => (by cases h), ka5, g5, co5, e5⟩, ka5, co5, g5, e5, m5, f5⟩
    | k + 6, hq => simp [ktys] at hq
  · exact ⟨va_AO.of (hts _ tn_ao_X7), va_AO.of (hts _ tn_ao_X8), va_Nw.of rfl (hts _ tn_ca), va_Nw.of rfl (hts _ tn_ml_X9_30), va_Nw.of rfl (hts _ tn_ml_X9_49), va_Nw.of rfl (hts _ tn_ml_X9_56), va_Nw.of rfl (hts _ tn_ml_X9_63), va_Nw.of rfl (hts _ tn_ml_X9_70), va_Nw.of rfl (hts _ tn_ml_X9_77), va_Nw.of rfl (hts _ tn_ml_X3_11)⟩
def z_pow : Nat → Int32 := (upd (upd (upd (upd (upd (upd (upd (upd (upd (fun _ => 0) 0 (1 : Int32)) 1 (3 : Int32)) 2 (9 : Int32)) 3 (27 : Int32)) 4 (81 : Int32)) 5 (243 : Int32)) 6 (729 : Int32)) 7 (2187 : Int32)) 8 (6561 : Int32))
def z_ssz : Nat → Int32 := (upd (upd (upd (upd (upd (upd (fun _ => 0) 0 (-1 : Int32)) 1 (-1 : Int32)) 2 (-1 : Int32)) 3 (-1 : Int32)) 4 (-1 : Int32)) 5 (-1 : Int32))
/-- the class's state and the reference's behind their constructors -/
def cs0 (o : Nat) : CS := ((fun k => if k = 2 then -1 else 0), (fun _ _ => 0), (fun _ _ => none), (fun _ => none), (fun _ => none), o + 64)
def rs0 : RS := ((fun k => if k = 3 then -1 else if k = 4 then -1 else 0), (fun k => if k = 5 then z_ssz else if k = 11 then z_pow else fun _ => 0), (fun _ _ => 0))
def les9 (κ : KK) (q : Nat) : List va_E := [.inr (9, [.ref (q + 1), .ref (q + 2), .ref (q + 3), .ref (q + 4), .ref (q + 5), .ref (q + 8), .ref (q + 12), .ref (q + 16), .ref (q + 20), .ref (q + 22), .ref (q + 26), .ref (q + 28), .int (0 : Int32), .int (0 : Int32), .int (-1 : Int32), .int (0 : Int32)]), .inl (κ.2 4, 6, .inr (.inr (.inr (.inr (fun _ => none))))), .inl (κ.2 5, 8, .inr (.inr (.inr (.inr (fun _ => none))))), .inl (κ.2 5, 8, .inr (.inr (.inr (.inr (fun _ => none))))), .inl (κ.2 0, 100, .inl (fun _ => 0)), .inr (1, [.ref (q + 6), .ref (q + 7), .null, .int 0, .int 0]), .inl (κ.2 2, 6561, .inl (fun _ => 0)), .inl (κ.2 0, 6561, .inl (fun _ => 0)), .inr (5, [.ref (q + 9), .ref (q + 10), .ref (q + 11), .int 0]), .inl (κ.2 0, 511, .inl (fun _ => 0)), .inl (κ.2 0, 511, .inl (fun _ => 0)), .inl (κ.2 0, 511, .inl (fun _ => 0)), .inr (5, [.ref (q + 13), .ref (q + 14), .ref (q + 15), .int 0]), .inl (κ.2 0, 100, .inl (fun _ => 0)), .inl (κ.2 0, 100, .inl (fun _ => 0)), .inl (κ.2 0, 100, .inl (fun _ => 0)), .inr (0, [.ref (q + 17), .ref (q + 18), .ref (q + 19), .int 0]), .inl (κ.2 3, 256, .inl (fun _ => 0)), .inl (κ.2 0, 256, .inl (fun _ => 0)), .inl (κ.2 0, 256, .inl (fun _ => 0)), .inr (6, [.ref (q + 21)]), .inl (κ.2 0, 256, .inl (fun _ => 0)), .inr (2, [.ref (q + 23), .int 0, .ref (q + 24), .ref (q + 25), .int 0]), .inl (κ.2 0, 16, .inl (fun _ => 0)), .inl (κ.2 0, 81, .inl (fun _ => 0)), .inl (κ.2 0, 81, .inl (fun _ => 0)), .inr (4, [.ref (q + 27), .int 0]), .inl (κ.2 0, 256, .inl (fun _ => 0)), .inr (3, [.ref (q + 29), .int 0, .int 0, .int 0]), .inr (1, [.ref (q + 30), .ref (q + 31), .null, .int 0, .int 0]), .inl (κ.2 2, 6561, .inl (fun _ => 0)), .inl (κ.2 0, 6561, .inl (fun _ => 0))]
def les10 (κ : KK) (q : Nat) : List va_E := [.inr (10, [.ref (q + 33), .ref (q + 34), .ref (q + 35), .ref (q + 36), .int 0, .ref (q + 37), .ref (q + 38), .ref (q + 39), .int 0, .ref (q + 40), .int 0, .int (-1 : Int32), .int (-1 : Int32), .ref (q + 41), .ref (q + 42), .ref (q + 43), .ref (q + 44), .ref (q + 45), .ref (q + 46), .ref (q + 47), .ref (q + 48), .int 0, .ref (q + 49), .ref (q + 50), .ref (q + 51), .ref (q + 52), .ref (q + 53), .ref (q + 54), .ref (q + 55), .ref (q + 56), .ref (q + 57), .int 0, .ref (q + 58), .int 0, .ref (q + 59), .ref (q + 60), .ref (q + 61), .int 0, .int 0, .ref (q + 62), .ref (q + 63)]), .inl (κ.2 0, 16, .inl (fun _ => 0)), .inl (κ.2 0, 16, .inl (fun _ => 0)), .inl (κ.2 0, 16, .inl (fun _ => 0)), .inl (κ.2 0, 4096, .inl (fun _ => 0)), .inl (κ.2 0, 6, .inl (fun _ => 0)), .inl (κ.2 0, 6, .inl (upd (upd (upd (upd (upd (upd (fun _ => 0) 0 (-1 : Int32)) 1 (-1 : Int32)) 2 (-1 : Int32)) 3 (-1 : Int32)) 4 (-1 : Int32)) 5 (-1 : Int32))), .inl (κ.2 1, 1536, .inr (.inl (fun _ => 0))), .inl (κ.2 0, 100, .inl (fun _ => 0)), .inl (κ.2 1, 256, .inr (.inl (fun _ => 0))), .inl (κ.2 0, 256, .inl (fun _ => 0)), .inl (κ.2 0, 101, .inl (fun _ => 0)), .inl (κ.2 0, 9, .inl (upd (upd (upd (upd (upd (upd (upd (upd (upd (fun _ => 0) 0 (1 : Int32)) 1 (3 : Int32)) 2 (9 : Int32)) 3 (27 : Int32)) 4 (81 : Int32)) 5 (243 : Int32)) 6 (729 : Int32)) 7 (2187 : Int32)) 8 (6561 : Int32))), .inl (κ.2 0, 6561, .inl (fun _ => 0)), .inl (κ.2 0, 6561, .inl (fun _ => 0)), .inl (κ.2 0, 6561, .inl (fun _ => 0)), .inl (κ.2 0, 6561, .inl (fun _ => 0)), .inl (κ.2 0, 512, .inl (fun _ => 0)), .inl (κ.2 0, 512, .inl (fun _ => 0)), .inl (κ.2 0, 512, .inl (fun _ => 0)), .inl (κ.2 0, 512, .inl (fun _ => 0)), .inl (κ.2 0, 40, .inl (fun _ => 0)), .inl (κ.2 0, 40, .inl (fun _ => 0)), .inl (κ.2 0, 40, .inl (fun _ => 0)), .inl (κ.2 0, 40, .inl (fun _ => 0)), .inl (κ.2 0, 256, .inl (fun _ => 0)), .inl (κ.2 0, 65536, .inl (fun _ => 0)), .inl (κ.2 0, 16, .inl (fun _ => 0)), .inl (κ.2 0, 81, .inl (fun _ => 0)), .inl (κ.2 0, 256, .inl (fun _ => 0)), .inl (κ.2 0, 6561, .inl (fun _ => 0)), .inl (κ.2 0, 6561, .inl (fun _ => 0))]
theorem les9_eq {κ : KK} {q : Nat} : les9 κ q = cfx κ q (cs0 q) := rfl
theorem les10_eq {κ : KK} {q : Nat} : les10 κ q = rfx κ (q + 32) rs0 := rfl
theorem LW_start {κ : KK} {q : Nat} {H : Heap} (h : LB κ q (les9 κ q ++ les10 κ q) H) : LWB κ q (cs0 q) rs0 H := by
  obtain ⟨h1, h2⟩ := LB_cut 32 (les9 κ q) (les10 κ q) rfl rfl h
  refine ⟨⟨fun k x hx => h2.2 k x (by rw [les9_eq]; exact hx), fun q x hx => (by cases hx), ?_, Nat.le_refl _⟩, fun k x hx => h1.2 k x (by rw [les10_eq]; exact hx)⟩
  rw [h.1]
  rfl
