theorem dX9_read_0 : decode cX9_read 0 = .ok (.iload_n 1, 1) := by decide +kernel
theorem dX9_read_1 : decode cX9_read 1 = .ok (.invokestatic 131, 3) := by decide +kernel
theorem dX9_read_4 : decode cX9_read 4 = .ok (.ifCond .eq 10, 3) := by decide +kernel
theorem dX9_read_7 : decode cX9_read 7 = .ok (.aload_n 0, 1) := by decide +kernel
theorem dX9_read_8 : decode cX9_read 8 = .ok (.invokevirtual 205, 3) := by decide +kernel
theorem dX9_read_11 : decode cX9_read 11 = .ok (.goto 5, 3) := by decide +kernel
theorem dX9_read_14 : decode cX9_read 14 = .ok (.bipush (-2), 2) := by decide +kernel
theorem dX9_read_16 : decode cX9_read 16 = .ok (.istore_n 2, 1) := by decide +kernel
theorem dX9_read_17 : decode cX9_read 17 = .ok (.iload_n 2, 1) := by decide +kernel
theorem dX9_read_18 : decode cX9_read 18 = .ok (.bipush (-2), 2) := by decide +kernel
theorem dX9_read_20 : decode cX9_read 20 = .ok (.if_icmp .eq 56, 3) := by decide +kernel
theorem dX9_read_23 : decode cX9_read 23 = .ok (.iconst 1, 1) := by decide +kernel
theorem dX9_read_24 : decode cX9_read 24 = .ok (.iload_n 2, 1) := by decide +kernel
theorem dX9_read_25 : decode cX9_read 25 = .ok (.ishl, 1) := by decide +kernel
theorem dX9_read_26 : decode cX9_read 26 = .ok (.newarray .byte, 2) := by decide +kernel
theorem dX9_read_28 : decode cX9_read 28 = .ok (.astore_n 3, 1) := by decide +kernel
theorem dX9_read_29 : decode cX9_read 29 = .ok (.iconst 0, 1) := by decide +kernel
theorem dX9_read_30 : decode cX9_read 30 = .ok (.istore 4, 2) := by decide +kernel
theorem dX9_read_32 : decode cX9_read 32 = .ok (.iload 4, 2) := by decide +kernel
theorem dX9_read_34 : decode cX9_read 34 = .ok (.aload_n 3, 1) := by decide +kernel
theorem dX9_read_35 : decode cX9_read 35 = .ok (.arraylength, 1) := by decide +kernel
theorem dX9_read_36 : decode cX9_read 36 = .ok (.if_icmp .ge 20, 3) := by decide +kernel
theorem dX9_read_39 : decode cX9_read 39 = .ok (.aload_n 3, 1) := by decide +kernel
theorem dX9_read_40 : decode cX9_read 40 = .ok (.iload 4, 2) := by decide +kernel
theorem dX9_read_42 : decode cX9_read 42 = .ok (.aload_n 0, 1) := by decide +kernel
theorem dX9_read_43 : decode cX9_read 43 = .ok (.iload 4, 2) := by decide +kernel
theorem dX9_read_45 : decode cX9_read 45 = .ok (.invokevirtual 209, 3) := by decide +kernel
theorem dX9_read_48 : decode cX9_read 48 = .ok (.i2b, 1) := by decide +kernel
theorem dX9_read_49 : decode cX9_read 49 = .ok (.bastore, 1) := by decide +kernel
theorem dX9_read_50 : decode cX9_read 50 = .ok (.iinc 4 1, 3) := by decide +kernel
theorem dX9_read_53 : decode cX9_read 53 = .ok (.goto (-21), 3) := by decide +kernel
theorem dX9_read_56 : decode cX9_read 56 = .ok (.aload_n 0, 1) := by decide +kernel
theorem dX9_read_57 : decode cX9_read 57 = .ok (.getfield 17, 3) := by decide +kernel
theorem dX9_read_60 : decode cX9_read 60 = .ok (.iload_n 1, 1) := by decide +kernel
theorem dX9_read_61 : decode cX9_read 61 = .ok (.new 15, 3) := by decide +kernel
theorem dX9_read_64 : decode cX9_read 64 = .ok (.dup, 1) := by decide +kernel
theorem dX9_read_65 : decode cX9_read 65 = .ok (.iconst 4, 1) := by decide +kernel
theorem dX9_read_66 : decode cX9_read 66 = .ok (.iload_n 2, 1) := by decide +kernel
theorem dX9_read_67 : decode cX9_read 67 = .ok (.bipush 100, 2) := by decide +kernel
theorem dX9_read_69 : decode cX9_read 69 = .ok (.iload_n 2, 1) := by decide +kernel
theorem dX9_read_70 : decode cX9_read 70 = .ok (.iadd, 1) := by decide +kernel
theorem dX9_read_71 : decode cX9_read 71 = .ok (.aload_n 3, 1) := by decide +kernel
theorem dX9_read_72 : decode cX9_read 72 = .ok (.invokespecial 202, 3) := by decide +kernel
theorem dX9_read_75 : decode cX9_read 75 = .ok (.aastore, 1) := by decide +kernel
theorem dX9_read_76 : decode cX9_read 76 = .ok (.aload_n 0, 1) := by decide +kernel
theorem dX9_read_77 : decode cX9_read 77 = .ok (.iconst 0, 1) := by decide +kernel
theorem dX9_read_78 : decode cX9_read 78 = .ok (.putfield 86, 3) := by decide +kernel
theorem dX9_read_81 : decode cX9_read 81 = .ok (.iload_n 2, 1) := by decide +kernel
theorem dX9_read_82 : decode cX9_read 82 = .ok (.ireturn, 1) := by decide +kernel
theorem yd_X9_read : yX9_read.cls = RX9 ∧ yX9_read.cls ≠ "java/lang/invoke/MethodHandle" ∧ yX9_read.cls ≠ "java/lang/invoke/VarHandle" ∧ (parseMethodDescriptor yX9_read.desc).map (fun d => d.parameters.length) = some 1 := by decide +kernel
abbrev rmX9_read : Room := { frames := 2, cells := 2, slots := 260, locals := 48 }
def fX9_read_L32 (o : Nat) (z : CS) (l1 : Int32) (l2 : Int32) (l3 : Nat) (l4 : Int32) : Option ((Int32 × CS) ⊕ CS) :=
  (lnB z l3).bind fun v3 =>
  if v3 ≤ l4 then
    some (.inr z)
  else
    (fX9_saidByFormula o z l4).bind fun q4 =>
    (stB o z l3 l4 (Int8.toInt32 (Int32.toInt8 q4))).bind fun z5 =>
    some (.inl ((l4 + (1 : Int32)), z5))
def fX9_read_J76 (o : Nat) (z : CS) (l2 : Int32) : Option (Int32 × CS) :=
  some (l2, (cI z 1 (0 : Int32)))
def fX9_read_J16 (o : Nat) (z : CS) (l1 : Int32) (s0 : Int32) : Option (Int32 × CS) :=
  if s0 = (-2 : Int32) then
    fX9_read_J76 o z s0
  else
    (alB o z ((1 : Int32) <<< (s0 &&& 31))).bind fun u2 =>
    (lpN (fun u => fX9_read_L32 o u.2 l1 s0 u2.1 u.1) bigN ((0 : Int32), u2.2)).bind fun e6 =>
    (alT o e6).bind fun u7 =>
    (fX8_init o u7.2 u7.1 (4 : Int32) s0 ((100 : Int32) + s0) u2.1).bind fun q8 =>
    (stQT q8 1 l1 (some u7.1)).bind fun z9 =>
    fX9_read_J76 o z9 s0
def fX9_read (o : Nat) (z : CS) (a1 : Int32) : Option (Int32 × CS) :=
  (fX9_isPlace a1).bind fun q1 =>
  if q1 = 0 then
    fX9_read_J16 o z a1 (-2 : Int32)
  else
    (fX9_bitsOfFormula o z ).bind fun q10 =>
    fX9_read_J16 o z a1 q10
set_option maxHeartbeats 4000000 in
set_option maxRecDepth 100000 in
theorem tX9_read_L32 {κ : KK} {p : Program} {l : Launch} {e : Env} {s : State} {m : MethodId} {args : Array Value} {below : List Frame} {meth : Method} {c : Code} (C : Cx κ p s m args meth c cX9_read 5 RX9 (some .int)) {o : Nat} {v : Option Value} {B' : Heap → Prop} {z : CS} {l1 : Int32} {l2 : Int32} {l3 : Nat} {l4 : Int32} {y : (Int32 × CS) ⊕ CS} (h : fX9_read_L32 o z l1 l2 l3 l4 = some y) (kc : ∀ u, y = .inl u → GC κ p l e s m args below meth c rmX9_read 5 o v B' 1 256 u.2 32 [(0, .ref o), (1, .int l1), (2, .int l2), (3, .ref l3), (4, .int u.1)] []) (kx : ∀ w, y = .inr w → GC κ p l e s m args below meth c rmX9_read 5 o v B' 1 256 w 56 [(0, .ref o), (1, .int l1), (2, .int l2), (3, .ref l3)] []) : GC κ p l e s m args below meth c rmX9_read 5 o v B' 1 256 z 32 [(0, .ref o), (1, .int l1), (2, .int l2), (3, .ref l3), (4, .int l4)] [] := by
  unfold fX9_read_L32 at h
  refine G_iload (pc' := 34) C dX9_read_32 4 rfl rfl ?_
  refine G_aload_n (pc' := 35) C dX9_read_34 3 rfl rfl ?_
  replace h := ob h
  obtain ⟨v3, hv3, h⟩ := h
  refine P_lenB (pc' := 36) C dX9_read_35 hv3 rfl ?_
  refine G_icmp_ge (tgt := 56) (pc' := 39) C dX9_read_36 (by decide) rfl (fun hc => ?_) (fun hc => ?_)
  · replace h := z_ip hc h
    exact G_sub (lv' := [(0, .ref o), (1, .int l1), (2, .int l2), (3, .ref l3)]) [0, 1, 2, 3] rfl (kx _ (Option.some.inj h).symm)
  · replace h := z_in hc h
    refine G_aload_n (pc' := 40) C dX9_read_39 3 rfl rfl ?_
    refine G_iload (pc' := 42) C dX9_read_40 4 rfl rfl ?_
    refine G_aload_n (pc' := 43) C dX9_read_42 0 rfl rfl ?_
    refine G_iload (pc' := 45) C dX9_read_43 4 rfl rfl ?_
    replace h := ob h
    obtain ⟨q4, hq4, h⟩ := h
    refine G_cV0 (pc' := 48) C dX9_read_45 (tX9_saidByFormula κ l o z l4 q4 hq4) (wV tw_ml_X9_209 tw_im_X9_saidByFormula tw_se_X9_X9_saidByFormula tw_in_X9 tw_co_X9_saidByFormula) yd_X9_saidByFormula rfl fi_X9 (CB_rd 0 rfl) rfl rfl (by decide) rfl (Nat.le_of_ble_eq_true rfl) rfl rfl ?_
    refine G_i2b (pc' := 49) C dX9_read_48 rfl ?_
    replace h := ob h
    obtain ⟨z5, hz5, h⟩ := h
    refine P_bast (pc' := 50) C dX9_read_49 hz5 rfl ?_
    refine G_iinc (pc' := 53) C dX9_read_50 4 rfl rfl [(4, .int (l4 + (1 : Int32))), (0, .ref o), (1, .int l1), (2, .int l2), (3, .ref l3)] (by decide) rfl rfl ?_
    refine G_goto (tgt := 32) C dX9_read_53 (by decide) ?_
    exact G_sub (lv' := [(0, .ref o), (1, .int l1), (2, .int l2), (3, .ref l3), (4, .int (l4 + (1 : Int32)))]) [1, 2, 3, 4, 0] rfl (kc ((l4 + (1 : Int32)), z5) (Option.some.inj h).symm)
set_option maxHeartbeats 4000000 in
set_option maxRecDepth 100000 in
theorem tX9_read (κ : KK) (l : Launch) (o : Nat) (z : CS) (a1 : Int32) (q : Int32 × CS) (h : fX9_read o z a1 = some q) : MM κ l yX9_read cX9_read 5 (some .int) rmX9_read (CA o) [.ref o, .int a1] (CB κ o z) (some (Value.int q.1)) (CB κ o q.2) := by
  refine MM.of (by decide +kernel) (Nat.le_of_ble_eq_true rfl) ?_
  intro p e s m below meth c C hnm
  have J76 : ∀ (z : CS) (l2 : Int32), fX9_read_J76 o z l2 = some q → GC κ p l e s m ([.ref o, .int a1] : List Value).toArray below meth c rmX9_read 5 o (some (Value.int q.1)) (CB κ o q.2) 2 260 z 76 [(0, .ref o), (2, .int l2)] [] := by
    intro z l2 h
    unfold fX9_read_J76 at h
    refine G_aload_n (pc' := 77) C dX9_read_76 0 rfl rfl ?_
    refine G_iconst (pc' := 78) (v := (0 : Int32)) C dX9_read_77 (by decide) rfl ?_
    refine G_put (pc' := 81) (k := 13) C fi_X9 dX9_read_78 tw_fl_X9_86 rfl (by decide) rfl rfl rfl (Nat.le_of_ble_eq_true rfl) (CB_rd 0 rfl) (CB_wr (cI z 1 (0 : Int32)) 0 (by decide) rfl rfl) rfl ?_
    refine G_iload_n (pc' := 82) C dX9_read_81 1 rfl rfl ?_
    refine G_widen (k := rmX9_read.cells) (n := rmX9_read.slots) (by decide) (by decide) ?_
    obtain rfl := Option.some.inj h
    exact G_iret C dX9_read_82 (fun _ h => h)
  have J16 : ∀ (z : CS) (l1 : Int32) (s0 : Int32), fX9_read_J16 o z l1 s0 = some q → GC κ p l e s m ([.ref o, .int a1] : List Value).toArray below meth c rmX9_read 5 o (some (Value.int q.1)) (CB κ o q.2) 0 0 z 16 [(0, .ref o), (1, .int l1)] [.int s0] := by
    intro z l1 s0 h
    unfold fX9_read_J16 at h
    refine G_istore_n (pc' := 17) C dX9_read_16 [(2, .int s0), (0, .ref o), (1, .int l1)] (by decide) rfl rfl ?_
    refine G_iload_n (pc' := 18) C dX9_read_17 0 rfl rfl ?_
    refine G_bipush (pc' := 20) (v := (-2 : Int32)) C dX9_read_18 (by decide) rfl ?_
    refine G_icmp_eq (tgt := 76) (pc' := 23) C dX9_read_20 (by decide) rfl (fun hc => ?_) (fun hc => ?_)
    · replace h := z_ip hc h
      refine G_widen (k := 2) (n := 260) (by decide) (by decide) ?_
      exact G_sub (lv' := [(0, .ref o), (2, .int s0)]) [1, 0] rfl (J76 z s0 h)
    · replace h := z_in hc h
      refine G_iconst (pc' := 24) (v := (1 : Int32)) C dX9_read_23 (by decide) rfl ?_
      refine G_iload_n (pc' := 25) C dX9_read_24 0 rfl rfl ?_
      refine G_ishl (pc' := 26) C dX9_read_25 rfl ?_
      replace h := ob h
      obtain ⟨u2, hu2, h⟩ := h
      refine P_newB (pc' := 28) C dX9_read_26 hu2 (by decide) rfl ?_
      refine G_astore_n (pc' := 29) C dX9_read_28 [(3, .ref u2.1), (2, .int s0), (0, .ref o), (1, .int l1)] (by decide) rfl rfl ?_
      refine G_iconst (pc' := 30) (v := (0 : Int32)) C dX9_read_29 (by decide) rfl ?_
      refine G_istore (pc' := 32) C dX9_read_30 [(4, .int (0 : Int32)), (3, .ref u2.1), (2, .int s0), (0, .ref o), (1, .int l1)] (by decide) rfl rfl ?_
      replace h := ob h
      obtain ⟨e6, hle6, h⟩ := h
      refine G_sub (lv' := [(0, .ref o), (1, .int l1), (2, .int s0), (3, .ref u2.1), (4, .int (0 : Int32))]) [3, 4, 2, 1, 0] rfl ?_
      refine lpN_ind (body := fun u => fX9_read_L32 o u.2 l1 s0 u2.1 u.1) (P := fun u => GC κ p l e s m ([.ref o, .int a1] : List Value).toArray below meth c rmX9_read 5 o (some (Value.int q.1)) (CB κ o q.2) 1 256 u.2 32 [(0, .ref o), (1, .int l1), (2, .int s0), (3, .ref u2.1), (4, .int u.1)] []) (X := fun w => GC κ p l e s m ([.ref o, .int a1] : List Value).toArray below meth c rmX9_read 5 o (some (Value.int q.1)) (CB κ o q.2) 1 256 w 56 [(0, .ref o), (1, .int l1), (2, .int s0), (3, .ref u2.1)] []) (fun u y hb kc kx => tX9_read_L32 C hb kc kx) _ _ _ hle6 ?_
      refine G_aload_n (pc' := 57) C dX9_read_56 0 rfl rfl ?_
      refine G_get (pc' := 60) (k := 1) C fi_X9 dX9_read_57 tw_fl_X9_17 rfl (by decide) (CB_rd 0 rfl) rfl rfl ?_
      refine G_iload_n (pc' := 61) C dX9_read_60 1 rfl rfl ?_
      replace h := ob h
      obtain ⟨u7, hu7, h⟩ := h
      refine P_newT (pc' := 64) C dX9_read_61 tw_cl_X9_15 hu7 (by decide) rfl ?_
      refine G_dup (pc' := 65) C dX9_read_64 rfl rfl ?_
      refine G_iconst (pc' := 66) (v := (4 : Int32)) C dX9_read_65 (by decide) rfl ?_
      refine G_iload_n (pc' := 67) C dX9_read_66 2 rfl rfl ?_
      refine G_bipush (pc' := 69) (v := (100 : Int32)) C dX9_read_67 (by decide) rfl ?_
      refine G_iload_n (pc' := 70) C dX9_read_69 2 rfl rfl ?_
      refine G_iadd (pc' := 71) C dX9_read_70 rfl ?_
      refine G_aload_n (pc' := 72) C dX9_read_71 3 rfl rfl ?_
      replace h := ob h
      obtain ⟨q8, hq8, h⟩ := h
      refine G_cI (pc' := 75) C dX9_read_72 (tX8_init κ l o u7.2 u7.1 (4 : Int32) s0 ((100 : Int32) + s0) u2.1 q8 hq8) ⟨tw_ml_X9_202, tw_im_X8_init, tw_co_X8_init, tw_in_X8⟩ rfl yi_X8_init rfl (by decide) rfl (Nat.le_of_ble_eq_true rfl) rfl ?_
      replace h := ob h
      obtain ⟨z9, hz9, h⟩ := h
      refine C_q_places (pc' := 76) (x := (some u7.1)) C dX9_read_75 hz9 rfl ?_
      exact G_sub (lv' := [(0, .ref o), (2, .int s0)]) [0, 2] rfl (J76 z9 s0 h)
  unfold fX9_read at h
  refine G_sub (lv' := [(0, .ref o), (1, .int a1)]) [0, 1] rfl ?_
  refine G_iload_n (pc' := 1) C dX9_read_0 1 rfl rfl ?_
  replace h := ob h
  obtain ⟨q1, hq1, h⟩ := h
  refine G_cS0 (pc' := 4) C dX9_read_1 (tX9_isPlace κ l (CA o) (CB κ o z) a1 q1 hq1) (wS tw_ml_X9_131 tw_st_X9_isPlace tw_co_X9_isPlace tw_in_X9) yd_X9_isPlace rfl rfl rfl (by decide) rfl (Nat.le_of_ble_eq_true rfl) rfl rfl ?_
  refine G_if_eq (tgt := 14) (pc' := 7) C dX9_read_4 (by decide) rfl (fun hc => ?_) (fun hc => ?_)
  · replace h := z_ip hc h
    refine G_bipush (pc' := 16) (v := (-2 : Int32)) C dX9_read_14 (by decide) rfl ?_
    exact G_sub (lv' := [(0, .ref o), (1, .int a1)]) [0, 1] rfl (J16 z a1 (-2 : Int32) h)
  · replace h := z_in hc h
    refine G_aload_n (pc' := 8) C dX9_read_7 0 rfl rfl ?_
    replace h := ob h
    obtain ⟨q10, hq10, h⟩ := h
    refine G_cV0 (pc' := 11) C dX9_read_8 (tX9_bitsOfFormula κ l o z  q10 hq10) (wV tw_ml_X9_205 tw_im_X9_bitsOfFormula tw_se_X9_X9_bitsOfFormula tw_in_X9 tw_co_X9_bitsOfFormula) yd_X9_bitsOfFormula rfl fi_X9 (CB_rd 0 rfl) rfl rfl (by decide) rfl (Nat.le_of_ble_eq_true rfl) rfl rfl ?_
    refine G_goto (tgt := 16) C dX9_read_11 (by decide) ?_
    exact G_sub (lv' := [(0, .ref o), (1, .int a1)]) [0, 1] rfl (J16 z a1 q10 h)
theorem dX9_withBit_0 : decode cX9_withBit 0 = .ok (.iload_n 0, 1) := by decide +kernel
theorem dX9_withBit_1 : decode cX9_withBit 1 = .ok (.iconst 1, 1) := by decide +kernel
theorem dX9_withBit_2 : decode cX9_withBit 2 = .ok (.iload_n 1, 1) := by decide +kernel
theorem dX9_withBit_3 : decode cX9_withBit 3 = .ok (.ishl, 1) := by decide +kernel
theorem dX9_withBit_4 : decode cX9_withBit 4 = .ok (.iconst 1, 1) := by decide +kernel
theorem dX9_withBit_5 : decode cX9_withBit 5 = .ok (.isub, 1) := by decide +kernel
theorem dX9_withBit_6 : decode cX9_withBit 6 = .ok (.iand, 1) := by decide +kernel
theorem dX9_withBit_7 : decode cX9_withBit 7 = .ok (.istore_n 3, 1) := by decide +kernel
theorem dX9_withBit_8 : decode cX9_withBit 8 = .ok (.iload_n 0, 1) := by decide +kernel
theorem dX9_withBit_9 : decode cX9_withBit 9 = .ok (.iload_n 3, 1) := by decide +kernel
theorem dX9_withBit_10 : decode cX9_withBit 10 = .ok (.isub, 1) := by decide +kernel
theorem dX9_withBit_11 : decode cX9_withBit 11 = .ok (.iconst 1, 1) := by decide +kernel
theorem dX9_withBit_12 : decode cX9_withBit 12 = .ok (.ishl, 1) := by decide +kernel
theorem dX9_withBit_13 : decode cX9_withBit 13 = .ok (.iload_n 2, 1) := by decide +kernel
theorem dX9_withBit_14 : decode cX9_withBit 14 = .ok (.iload_n 1, 1) := by decide +kernel
theorem dX9_withBit_15 : decode cX9_withBit 15 = .ok (.ishl, 1) := by decide +kernel
theorem dX9_withBit_16 : decode cX9_withBit 16 = .ok (.ior, 1) := by decide +kernel
theorem dX9_withBit_17 : decode cX9_withBit 17 = .ok (.iload_n 3, 1) := by decide +kernel
theorem dX9_withBit_18 : decode cX9_withBit 18 = .ok (.ior, 1) := by decide +kernel
theorem dX9_withBit_19 : decode cX9_withBit 19 = .ok (.ireturn, 1) := by decide +kernel
theorem yd_X9_withBit : yX9_withBit.cls ≠ "java/lang/invoke/MethodHandle" ∧ yX9_withBit.cls ≠ "java/lang/invoke/VarHandle" ∧ (parseMethodDescriptor yX9_withBit.desc).map (fun d => d.parameters.length) = some 3 := by decide +kernel
abbrev rmX9_withBit : Room := { frames := 0, cells := 0, slots := 0, locals := 0 }
def fX9_withBit (a1 : Int32) (a2 : Int32) (a3 : Int32) : Option (Int32) :=
  some ((((a1 - (a1 &&& (((1 : Int32) <<< (a2 &&& 31)) - (1 : Int32)))) <<< ((1 : Int32) &&& 31)) ||| (a3 <<< (a2 &&& 31))) ||| (a1 &&& (((1 : Int32) <<< (a2 &&& 31)) - (1 : Int32))))
set_option maxHeartbeats 4000000 in
set_option maxRecDepth 100000 in
theorem tX9_withBit (κ : KK) (l : Launch) (A : Nat → Prop) (B : Heap → Prop) (a1 : Int32) (a2 : Int32) (a3 : Int32) (q : Int32) (h : fX9_withBit a1 a2 a3 = some q) : MM κ l yX9_withBit cX9_withBit 4 (some .int) rmX9_withBit A [.int a1, .int a2, .int a3] B (some (Value.int q)) B := by
  refine MM.of (by decide +kernel) (Nat.le_of_ble_eq_true rfl) ?_
  intro p e s m below meth c C hnm
  unfold fX9_withBit at h
  refine G_sub (lv' := [(0, .int a1), (1, .int a2), (2, .int a3)]) [0, 1, 2] rfl ?_
  refine G_iload_n (pc' := 1) C dX9_withBit_0 0 rfl rfl ?_
  refine G_iconst (pc' := 2) (v := (1 : Int32)) C dX9_withBit_1 (by decide) rfl ?_
  refine G_iload_n (pc' := 3) C dX9_withBit_2 1 rfl rfl ?_
  refine G_ishl (pc' := 4) C dX9_withBit_3 rfl ?_
  refine G_iconst (pc' := 5) (v := (1 : Int32)) C dX9_withBit_4 (by decide) rfl ?_
  refine G_isub (pc' := 6) C dX9_withBit_5 rfl ?_
  refine G_iand (pc' := 7) C dX9_withBit_6 rfl ?_
  refine G_istore_n (pc' := 8) C dX9_withBit_7 [(3, .int (a1 &&& (((1 : Int32) <<< (a2 &&& 31)) - (1 : Int32)))), (0, .int a1), (1, .int a2), (2, .int a3)] (by decide) rfl rfl ?_
  refine G_iload_n (pc' := 9) C dX9_withBit_8 1 rfl rfl ?_
  refine G_iload_n (pc' := 10) C dX9_withBit_9 0 rfl rfl ?_
  refine G_isub (pc' := 11) C dX9_withBit_10 rfl ?_
  refine G_iconst (pc' := 12) (v := (1 : Int32)) C dX9_withBit_11 (by decide) rfl ?_
  refine G_ishl (pc' := 13) C dX9_withBit_12 rfl ?_
  refine G_iload_n (pc' := 14) C dX9_withBit_13 3 rfl rfl ?_
  refine G_iload_n (pc' := 15) C dX9_withBit_14 2 rfl rfl ?_
  refine G_ishl (pc' := 16) C dX9_withBit_15 rfl ?_
  refine G_ior (pc' := 17) C dX9_withBit_16 rfl ?_
  refine G_iload_n (pc' := 18) C dX9_withBit_17 0 rfl rfl ?_
  refine G_ior (pc' := 19) C dX9_withBit_18 rfl ?_
  obtain rfl := Option.some.inj h
  exact G_iret C dX9_withBit_19 (fun _ h => h)
theorem dX9_madeFrom_0 : decode cX9_madeFrom 0 = .ok (.iload_n 1, 1) := by decide +kernel
theorem dX9_madeFrom_1 : decode cX9_madeFrom 1 = .ok (.tableswitch 61 1 4 #[31, 41, 48, 55], 31) := by decide +kernel
theorem dX9_madeFrom_32 : decode cX9_madeFrom 32 = .ok (.aload_n 0, 1) := by decide +kernel
theorem dX9_madeFrom_33 : decode cX9_madeFrom 33 = .ok (.getfield 155, 3) := by decide +kernel
theorem dX9_madeFrom_36 : decode cX9_madeFrom 36 = .ok (.arraylength, 1) := by decide +kernel
theorem dX9_madeFrom_37 : decode cX9_madeFrom 37 = .ok (.iconst 1, 1) := by decide +kernel
theorem dX9_madeFrom_38 : decode cX9_madeFrom 38 = .ok (.isub, 1) := by decide +kernel
theorem dX9_madeFrom_39 : decode cX9_madeFrom 39 = .ok (.iload_n 3, 1) := by decide +kernel
theorem dX9_madeFrom_40 : decode cX9_madeFrom 40 = .ok (.isub, 1) := by decide +kernel
theorem dX9_madeFrom_41 : decode cX9_madeFrom 41 = .ok (.ireturn, 1) := by decide +kernel
theorem dX9_madeFrom_42 : decode cX9_madeFrom 42 = .ok (.iload_n 3, 1) := by decide +kernel
theorem dX9_madeFrom_43 : decode cX9_madeFrom 43 = .ok (.iload_n 2, 1) := by decide +kernel
theorem dX9_madeFrom_44 : decode cX9_madeFrom 44 = .ok (.iconst 0, 1) := by decide +kernel
theorem dX9_madeFrom_45 : decode cX9_madeFrom 45 = .ok (.invokestatic 216, 3) := by decide +kernel
theorem dX9_madeFrom_48 : decode cX9_madeFrom 48 = .ok (.ireturn, 1) := by decide +kernel
theorem dX9_madeFrom_49 : decode cX9_madeFrom 49 = .ok (.iload_n 3, 1) := by decide +kernel
theorem dX9_madeFrom_50 : decode cX9_madeFrom 50 = .ok (.iload_n 2, 1) := by decide +kernel
theorem dX9_madeFrom_51 : decode cX9_madeFrom 51 = .ok (.iconst 1, 1) := by decide +kernel
theorem dX9_madeFrom_52 : decode cX9_madeFrom 52 = .ok (.invokestatic 216, 3) := by decide +kernel
theorem dX9_madeFrom_55 : decode cX9_madeFrom 55 = .ok (.ireturn, 1) := by decide +kernel
theorem dX9_madeFrom_56 : decode cX9_madeFrom 56 = .ok (.iload_n 3, 1) := by decide +kernel
theorem dX9_madeFrom_57 : decode cX9_madeFrom 57 = .ok (.iconst 1, 1) := by decide +kernel
theorem dX9_madeFrom_58 : decode cX9_madeFrom 58 = .ok (.iload_n 2, 1) := by decide +kernel
theorem dX9_madeFrom_59 : decode cX9_madeFrom 59 = .ok (.ishl, 1) := by decide +kernel
theorem dX9_madeFrom_60 : decode cX9_madeFrom 60 = .ok (.ixor, 1) := by decide +kernel
theorem dX9_madeFrom_61 : decode cX9_madeFrom 61 = .ok (.ireturn, 1) := by decide +kernel
theorem dX9_madeFrom_62 : decode cX9_madeFrom 62 = .ok (.iload_n 3, 1) := by decide +kernel
theorem dX9_madeFrom_63 : decode cX9_madeFrom 63 = .ok (.ireturn, 1) := by decide +kernel
theorem yd_X9_madeFrom : yX9_madeFrom.cls ≠ "java/lang/invoke/MethodHandle" ∧ yX9_madeFrom.cls ≠ "java/lang/invoke/VarHandle" ∧ (parseMethodDescriptor yX9_madeFrom.desc).map (fun d => d.parameters.length) = some 4 := by decide +kernel
abbrev rmX9_madeFrom : Room := { frames := 1, cells := 0, slots := 0, locals := 23 }
def fX9_madeFrom (o : Nat) (z : CS) (a1 : Nat) (a2 : Int32) (a3 : Int32) (a4 : Int32) : Option (Int32) :=
  if a2 = (1 : Int32) then
    (dT z a1).bind fun t1 =>
    (t1.2.2.2).bind fun ad2 =>
    (lnB z ad2).bind fun v3 =>
    some ((v3 - (1 : Int32)) - a4)
  else
  if a2 = (2 : Int32) then
    (fX9_withBit a4 a3 (0 : Int32)).bind fun q4 =>
    some q4
  else
  if a2 = (3 : Int32) then
    (fX9_withBit a4 a3 (1 : Int32)).bind fun q5 =>
    some q5
  else
  if a2 = (4 : Int32) then
    some (a4 ^^^ ((1 : Int32) <<< (a3 &&& 31)))
  else
    some a4
set_option maxHeartbeats 4000000 in
set_option maxRecDepth 100000 in
theorem tX9_madeFrom (κ : KK) (l : Launch) (o : Nat) (z : CS) (a1 : Nat) (a2 : Int32) (a3 : Int32) (a4 : Int32) (q : Int32) (h : fX9_madeFrom o z a1 a2 a3 a4 = some q) : MM κ l yX9_madeFrom cX9_madeFrom 4 (some .int) rmX9_madeFrom (CA o) [.ref a1, .int a2, .int a3, .int a4] (CB κ o z) (some (Value.int q)) (CB κ o z) := by
  refine MM.of (by decide +kernel) (Nat.le_of_ble_eq_true rfl) ?_
  intro p e s m below meth c C hnm
  unfold fX9_madeFrom at h
  refine G_sub (lv' := [(0, .ref a1), (1, .int a2), (2, .int a3), (3, .int a4)]) [0, 1, 2, 3] rfl ?_
  refine G_iload_n (pc' := 1) C dX9_madeFrom_0 1 rfl rfl ?_
  by_cases hc1 : a2 = (1 : Int32)
  · replace h := z_ip hc1 h
    refine G_tabIn (tgt := 32) C dX9_madeFrom_1 (by rw [hc1]; decide) (by rw [hc1]; decide) (by rw [hc1]; rfl) (by decide) ?_
    refine G_aload_n (pc' := 33) C dX9_madeFrom_32 0 rfl rfl ?_
    replace h := ob h
    obtain ⟨t1, ht1, h⟩ := h
    refine G_get (pc' := 36) (k := 3) C fi_X8 dX9_madeFrom_33 tw_fl_X9_155 rfl (by decide) (CB_T ht1) rfl rfl ?_
    replace h := ob h
    obtain ⟨ad2, had2, h⟩ := h
    rw [had2]
    replace h := ob h
    obtain ⟨v3, hv3, h⟩ := h
    refine P_lenB (pc' := 37) C dX9_madeFrom_36 hv3 rfl ?_
    refine G_iconst (pc' := 38) (v := (1 : Int32)) C dX9_madeFrom_37 (by decide) rfl ?_
    refine G_isub (pc' := 39) C dX9_madeFrom_38 rfl ?_
    refine G_iload_n (pc' := 40) C dX9_madeFrom_39 3 rfl rfl ?_
    refine G_isub (pc' := 41) C dX9_madeFrom_40 rfl ?_
    obtain rfl := Option.some.inj h
    exact G_iret C dX9_madeFrom_41 (fun _ h => h)
  replace h := z_in hc1 h
  by_cases hc2 : a2 = (2 : Int32)
  · replace h := z_ip hc2 h
    refine G_tabIn (tgt := 42) C dX9_madeFrom_1 (by rw [hc2]; decide) (by rw [hc2]; decide) (by rw [hc2]; rfl) (by decide) ?_
    refine G_iload_n (pc' := 43) C dX9_madeFrom_42 3 rfl rfl ?_
    refine G_iload_n (pc' := 44) C dX9_madeFrom_43 2 rfl rfl ?_
    refine G_iconst (pc' := 45) (v := (0 : Int32)) C dX9_madeFrom_44 (by decide) rfl ?_
    replace h := ob h
    obtain ⟨q4, hq4, h⟩ := h
    refine G_cS0 (pc' := 48) C dX9_madeFrom_45 (tX9_withBit κ l (CA o) (CB κ o z) a4 a3 (0 : Int32) q4 hq4) (wS tw_ml_X9_216 tw_st_X9_withBit tw_co_X9_withBit tw_in_X9) yd_X9_withBit rfl rfl rfl (by decide) rfl (Nat.le_of_ble_eq_true rfl) rfl rfl ?_
    obtain rfl := Option.some.inj h
    exact G_iret C dX9_madeFrom_48 (fun _ h => h)
  replace h := z_in hc2 h
  by_cases hc3 : a2 = (3 : Int32)
  · replace h := z_ip hc3 h
    refine G_tabIn (tgt := 49) C dX9_madeFrom_1 (by rw [hc3]; decide) (by rw [hc3]; decide) (by rw [hc3]; rfl) (by decide) ?_
    refine G_iload_n (pc' := 50) C dX9_madeFrom_49 3 rfl rfl ?_
    refine G_iload_n (pc' := 51) C dX9_madeFrom_50 2 rfl rfl ?_
    refine G_iconst (pc' := 52) (v := (1 : Int32)) C dX9_madeFrom_51 (by decide) rfl ?_
    replace h := ob h
    obtain ⟨q5, hq5, h⟩ := h
    refine G_cS0 (pc' := 55) C dX9_madeFrom_52 (tX9_withBit κ l (CA o) (CB κ o z) a4 a3 (1 : Int32) q5 hq5) (wS tw_ml_X9_216 tw_st_X9_withBit tw_co_X9_withBit tw_in_X9) yd_X9_withBit rfl rfl rfl (by decide) rfl (Nat.le_of_ble_eq_true rfl) rfl rfl ?_
    obtain rfl := Option.some.inj h
    exact G_iret C dX9_madeFrom_55 (fun _ h => h)
  replace h := z_in hc3 h
  by_cases hc4 : a2 = (4 : Int32)
  · replace h := z_ip hc4 h
    refine G_tabIn (tgt := 56) C dX9_madeFrom_1 (by rw [hc4]; decide) (by rw [hc4]; decide) (by rw [hc4]; rfl) (by decide) ?_
    refine G_iload_n (pc' := 57) C dX9_madeFrom_56 3 rfl rfl ?_
    refine G_iconst (pc' := 58) (v := (1 : Int32)) C dX9_madeFrom_57 (by decide) rfl ?_
    refine G_iload_n (pc' := 59) C dX9_madeFrom_58 2 rfl rfl ?_
    refine G_ishl (pc' := 60) C dX9_madeFrom_59 rfl ?_
    refine G_ixor (pc' := 61) C dX9_madeFrom_60 rfl ?_
    obtain rfl := Option.some.inj h
    exact G_iret C dX9_madeFrom_61 (fun _ h => h)
  replace h := z_in hc4 h
  refine G_tabOut (tgt := 62) C dX9_madeFrom_1 (z_out1_4 hc1 hc2 hc3 hc4) (by decide) ?_
  refine G_iload_n (pc' := 63) C dX9_madeFrom_62 3 rfl rfl ?_
  obtain rfl := Option.some.inj h
  exact G_iret C dX9_madeFrom_63 (fun _ h => h)
theorem dX9_made_0 : decode cX9_made 0 = .ok (.iload_n 2, 1) := by decide +kernel
theorem dX9_made_1 : decode cX9_made 1 = .ok (.invokestatic 131, 3) := by decide +kernel
theorem dX9_made_4 : decode cX9_made 4 = .ok (.ifCond .eq 12, 3) := by decide +kernel
theorem dX9_made_7 : decode cX9_made 7 = .ok (.iload_n 3, 1) := by decide +kernel
theorem dX9_made_8 : decode cX9_made 8 = .ok (.ifCond .lt 8, 3) := by decide +kernel
theorem dX9_made_11 : decode cX9_made 11 = .ok (.iload_n 3, 1) := by decide +kernel
theorem dX9_made_12 : decode cX9_made 12 = .ok (.iconst 4, 1) := by decide +kernel
theorem dX9_made_13 : decode cX9_made 13 = .ok (.if_icmp .le 8, 3) := by decide +kernel
theorem dX9_made_16 : decode cX9_made 16 = .ok (.bipush (-2), 2) := by decide +kernel
theorem dX9_made_18 : decode cX9_made 18 = .ok (.goto 8, 3) := by decide +kernel
theorem dX9_made_21 : decode cX9_made 21 = .ok (.aload_n 0, 1) := by decide +kernel
theorem dX9_made_22 : decode cX9_made 22 = .ok (.iload_n 1, 1) := by decide +kernel
theorem dX9_made_23 : decode cX9_made 23 = .ok (.invokevirtual 145, 3) := by decide +kernel
theorem dX9_made_26 : decode cX9_made 26 = .ok (.istore 5, 2) := by decide +kernel
theorem dX9_made_28 : decode cX9_made 28 = .ok (.iload 5, 2) := by decide +kernel
theorem dX9_made_30 : decode cX9_made 30 = .ok (.ifCond .eq 6, 3) := by decide +kernel
theorem dX9_made_33 : decode cX9_made 33 = .ok (.iload 5, 2) := by decide +kernel
theorem dX9_made_35 : decode cX9_made 35 = .ok (.ireturn, 1) := by decide +kernel
theorem dX9_made_36 : decode cX9_made 36 = .ok (.aload_n 0, 1) := by decide +kernel
theorem dX9_made_37 : decode cX9_made 37 = .ok (.getfield 17, 3) := by decide +kernel
theorem dX9_made_40 : decode cX9_made 40 = .ok (.iload_n 1, 1) := by decide +kernel
theorem dX9_made_41 : decode cX9_made 41 = .ok (.aaload, 1) := by decide +kernel
theorem dX9_made_42 : decode cX9_made 42 = .ok (.astore 6, 2) := by decide +kernel
theorem dX9_made_44 : decode cX9_made 44 = .ok (.iload_n 3, 1) := by decide +kernel
theorem dX9_made_45 : decode cX9_made 45 = .ok (.iconst 2, 1) := by decide +kernel
theorem dX9_made_46 : decode cX9_made 46 = .ok (.if_icmp .lt 21, 3) := by decide +kernel
theorem dX9_made_49 : decode cX9_made 49 = .ok (.iload 4, 2) := by decide +kernel
theorem dX9_made_51 : decode cX9_made 51 = .ok (.ifCond .lt 13, 3) := by decide +kernel
theorem dX9_made_54 : decode cX9_made 54 = .ok (.iload 4, 2) := by decide +kernel
theorem dX9_made_56 : decode cX9_made 56 = .ok (.aload 6, 2) := by decide +kernel
theorem dX9_made_58 : decode cX9_made 58 = .ok (.getfield 152, 3) := by decide +kernel
theorem dX9_made_61 : decode cX9_made 61 = .ok (.if_icmp .lt 6, 3) := by decide +kernel
theorem dX9_made_64 : decode cX9_made 64 = .ok (.bipush (-2), 2) := by decide +kernel
theorem dX9_made_66 : decode cX9_made 66 = .ok (.ireturn, 1) := by decide +kernel
theorem dX9_made_67 : decode cX9_made 67 = .ok (.iload_n 3, 1) := by decide +kernel
theorem dX9_made_68 : decode cX9_made 68 = .ok (.iconst 2, 1) := by decide +kernel
theorem dX9_made_69 : decode cX9_made 69 = .ok (.if_icmp .eq 8, 3) := by decide +kernel
theorem dX9_made_72 : decode cX9_made 72 = .ok (.iload_n 3, 1) := by decide +kernel
theorem dX9_made_73 : decode cX9_made 73 = .ok (.iconst 3, 1) := by decide +kernel
theorem dX9_made_74 : decode cX9_made 74 = .ok (.if_icmp .ne 7, 3) := by decide +kernel
theorem dX9_made_77 : decode cX9_made 77 = .ok (.iconst 1, 1) := by decide +kernel
theorem dX9_made_78 : decode cX9_made 78 = .ok (.goto 4, 3) := by decide +kernel
theorem dX9_made_81 : decode cX9_made 81 = .ok (.iconst 0, 1) := by decide +kernel
theorem dX9_made_82 : decode cX9_made 82 = .ok (.istore 7, 2) := by decide +kernel
theorem dX9_made_84 : decode cX9_made 84 = .ok (.iload 7, 2) := by decide +kernel
theorem dX9_made_86 : decode cX9_made 86 = .ok (.ifCond .eq 15, 3) := by decide +kernel
theorem dX9_made_89 : decode cX9_made 89 = .ok (.aload 6, 2) := by decide +kernel
theorem dX9_made_91 : decode cX9_made 91 = .ok (.getfield 152, 3) := by decide +kernel
theorem dX9_made_94 : decode cX9_made 94 = .ok (.iconst 1, 1) := by decide +kernel
theorem dX9_made_95 : decode cX9_made 95 = .ok (.if_icmp .ne 6, 3) := by decide +kernel
theorem dX9_made_98 : decode cX9_made 98 = .ok (.bipush (-5), 2) := by decide +kernel
theorem dX9_made_100 : decode cX9_made 100 = .ok (.ireturn, 1) := by decide +kernel
theorem dX9_made_101 : decode cX9_made 101 = .ok (.iload 7, 2) := by decide +kernel
theorem dX9_made_103 : decode cX9_made 103 = .ok (.ifCond .eq 13, 3) := by decide +kernel
theorem dX9_made_106 : decode cX9_made 106 = .ok (.aload 6, 2) := by decide +kernel
theorem dX9_made_108 : decode cX9_made 108 = .ok (.getfield 152, 3) := by decide +kernel
theorem dX9_made_111 : decode cX9_made 111 = .ok (.iconst 1, 1) := by decide +kernel
theorem dX9_made_112 : decode cX9_made 112 = .ok (.isub, 1) := by decide +kernel
theorem dX9_made_113 : decode cX9_made 113 = .ok (.goto 8, 3) := by decide +kernel
theorem dX9_made_116 : decode cX9_made 116 = .ok (.aload 6, 2) := by decide +kernel
theorem dX9_made_118 : decode cX9_made 118 = .ok (.getfield 152, 3) := by decide +kernel
theorem dX9_made_121 : decode cX9_made 121 = .ok (.istore 8, 2) := by decide +kernel
theorem dX9_made_123 : decode cX9_made 123 = .ok (.iconst 1, 1) := by decide +kernel
theorem dX9_made_124 : decode cX9_made 124 = .ok (.iload 8, 2) := by decide +kernel
theorem dX9_made_126 : decode cX9_made 126 = .ok (.ishl, 1) := by decide +kernel
theorem dX9_made_127 : decode cX9_made 127 = .ok (.newarray .byte, 2) := by decide +kernel
theorem dX9_made_129 : decode cX9_made 129 = .ok (.astore 9, 2) := by decide +kernel
theorem dX9_made_131 : decode cX9_made 131 = .ok (.iconst 0, 1) := by decide +kernel
theorem dX9_made_132 : decode cX9_made 132 = .ok (.istore 10, 2) := by decide +kernel
theorem dX9_made_134 : decode cX9_made 134 = .ok (.iload 10, 2) := by decide +kernel
theorem dX9_made_136 : decode cX9_made 136 = .ok (.aload 9, 2) := by decide +kernel
theorem dX9_made_138 : decode cX9_made 138 = .ok (.arraylength, 1) := by decide +kernel
theorem dX9_made_139 : decode cX9_made 139 = .ok (.if_icmp .ge 65, 3) := by decide +kernel
theorem dX9_made_142 : decode cX9_made 142 = .ok (.aload 6, 2) := by decide +kernel
theorem dX9_made_144 : decode cX9_made 144 = .ok (.getfield 155, 3) := by decide +kernel
theorem dX9_made_147 : decode cX9_made 147 = .ok (.aload 6, 2) := by decide +kernel
theorem dX9_made_149 : decode cX9_made 149 = .ok (.iload_n 3, 1) := by decide +kernel
theorem dX9_made_150 : decode cX9_made 150 = .ok (.iload 4, 2) := by decide +kernel
theorem dX9_made_152 : decode cX9_made 152 = .ok (.iload 10, 2) := by decide +kernel
theorem dX9_made_154 : decode cX9_made 154 = .ok (.invokestatic 212, 3) := by decide +kernel
theorem dX9_made_157 : decode cX9_made 157 = .ok (.baload, 1) := by decide +kernel
theorem dX9_made_158 : decode cX9_made 158 = .ok (.istore 11, 2) := by decide +kernel
theorem dX9_made_160 : decode cX9_made 160 = .ok (.iload_n 3, 1) := by decide +kernel
theorem dX9_made_161 : decode cX9_made 161 = .ok (.iconst 2, 1) := by decide +kernel
theorem dX9_made_162 : decode cX9_made 162 = .ok (.if_icmp .ge 13, 3) := by decide +kernel
theorem dX9_made_165 : decode cX9_made 165 = .ok (.iload 11, 2) := by decide +kernel
theorem dX9_made_167 : decode cX9_made 167 = .ok (.iconst 2, 1) := by decide +kernel
theorem dX9_made_168 : decode cX9_made 168 = .ok (.if_icmp .eq 7, 3) := by decide +kernel
theorem dX9_made_171 : decode cX9_made 171 = .ok (.iconst 1, 1) := by decide +kernel
theorem dX9_made_172 : decode cX9_made 172 = .ok (.goto 4, 3) := by decide +kernel
theorem dX9_made_175 : decode cX9_made 175 = .ok (.iconst 0, 1) := by decide +kernel
theorem dX9_made_176 : decode cX9_made 176 = .ok (.istore 12, 2) := by decide +kernel
theorem dX9_made_178 : decode cX9_made 178 = .ok (.aload 9, 2) := by decide +kernel
theorem dX9_made_180 : decode cX9_made 180 = .ok (.iload 10, 2) := by decide +kernel
theorem dX9_made_182 : decode cX9_made 182 = .ok (.iload 12, 2) := by decide +kernel
theorem dX9_made_184 : decode cX9_made 184 = .ok (.ifCond .eq 10, 3) := by decide +kernel
theorem dX9_made_187 : decode cX9_made 187 = .ok (.iconst 1, 1) := by decide +kernel
theorem dX9_made_188 : decode cX9_made 188 = .ok (.iload 11, 2) := by decide +kernel
theorem dX9_made_190 : decode cX9_made 190 = .ok (.isub, 1) := by decide +kernel
theorem dX9_made_191 : decode cX9_made 191 = .ok (.goto 5, 3) := by decide +kernel
theorem dX9_made_194 : decode cX9_made 194 = .ok (.iload 11, 2) := by decide +kernel
theorem dX9_made_196 : decode cX9_made 196 = .ok (.i2b, 1) := by decide +kernel
theorem dX9_made_197 : decode cX9_made 197 = .ok (.bastore, 1) := by decide +kernel
theorem dX9_made_198 : decode cX9_made 198 = .ok (.iinc 10 1, 3) := by decide +kernel
theorem dX9_made_201 : decode cX9_made 201 = .ok (.goto (-67), 3) := by decide +kernel
theorem dX9_made_204 : decode cX9_made 204 = .ok (.aload_n 0, 1) := by decide +kernel
theorem dX9_made_205 : decode cX9_made 205 = .ok (.getfield 17, 3) := by decide +kernel
theorem dX9_made_208 : decode cX9_made 208 = .ok (.iload_n 2, 1) := by decide +kernel
theorem dX9_made_209 : decode cX9_made 209 = .ok (.iconst 0, 1) := by decide +kernel
theorem dX9_made_210 : decode cX9_made 210 = .ok (.iload 8, 2) := by decide +kernel
theorem dX9_made_212 : decode cX9_made 212 = .ok (.aload 9, 2) := by decide +kernel
theorem dX9_made_214 : decode cX9_made 214 = .ok (.invokestatic 138, 3) := by decide +kernel
theorem dX9_made_217 : decode cX9_made 217 = .ok (.aastore, 1) := by decide +kernel
theorem dX9_made_218 : decode cX9_made 218 = .ok (.iload 8, 2) := by decide +kernel
theorem dX9_made_220 : decode cX9_made 220 = .ok (.ireturn, 1) := by decide +kernel
theorem yd_X9_made : yX9_made.cls = RX9 ∧ yX9_made.cls ≠ "java/lang/invoke/MethodHandle" ∧ yX9_made.cls ≠ "java/lang/invoke/VarHandle" ∧ (parseMethodDescriptor yX9_made.desc).map (fun d => d.parameters.length) = some 4 := by decide +kernel
abbrev rmX9_made : Room := { frames := 3, cells := 2, slots := 260, locals := 70 }
def fX9_made_L134_J196 (o : Nat) (z : CS) (l2 : Int32) (l3 : Int32) (l4 : Int32) (l6 : Nat) (l8 : Int32) (l9 : Nat) (l10 : Int32) (s0 : Int32) (s1 : Int32) (s2 : Nat) : Option ((Int32 × CS) ⊕ CS) :=
  (stB o z s2 s1 (Int8.toInt32 (Int32.toInt8 s0))).bind fun z11 =>
  some (.inl ((l10 + (1 : Int32)), z11))
def fX9_made_L134_J176 (o : Nat) (z : CS) (l2 : Int32) (l3 : Int32) (l4 : Int32) (l6 : Nat) (l8 : Int32) (l9 : Nat) (l10 : Int32) (l11 : Int32) (s0 : Int32) : Option ((Int32 × CS) ⊕ CS) :=
  if s0 = 0 then
    fX9_made_L134_J196 o z l2 l3 l4 l6 l8 l9 l10 l11 l10 l9
  else
    fX9_made_L134_J196 o z l2 l3 l4 l6 l8 l9 l10 ((1 : Int32) - l11) l10 l9
def fX9_made_L134_J175 (o : Nat) (z : CS) (l2 : Int32) (l3 : Int32) (l4 : Int32) (l6 : Nat) (l8 : Int32) (l9 : Nat) (l10 : Int32) (l11 : Int32) : Option ((Int32 × CS) ⊕ CS) :=
  fX9_made_L134_J176 o z l2 l3 l4 l6 l8 l9 l10 l11 (0 : Int32)
def fX9_made_L134 (o : Nat) (z : CS) (l2 : Int32) (l3 : Int32) (l4 : Int32) (l6 : Nat) (l8 : Int32) (l9 : Nat) (l10 : Int32) : Option ((Int32 × CS) ⊕ CS) :=
  (lnB z l9).bind fun v6 =>
  if v6 ≤ l10 then
    some (.inr z)
  else
    (dT z l6).bind fun t7 =>
    (fX9_madeFrom o z l6 l3 l4 l10).bind fun q8 =>
    (t7.2.2.2).bind fun ad9 =>
    (rdB z ad9 q8).bind fun v10 =>
    if (2 : Int32) ≤ l3 then
      fX9_made_L134_J175 o z l2 l3 l4 l6 l8 l9 l10 v10
    else
      if v10 = (2 : Int32) then
        fX9_made_L134_J175 o z l2 l3 l4 l6 l8 l9 l10 v10
      else
        fX9_made_L134_J176 o z l2 l3 l4 l6 l8 l9 l10 v10 (1 : Int32)
def fX9_made_J121 (o : Nat) (z : CS) (l2 : Int32) (l3 : Int32) (l4 : Int32) (l6 : Nat) (s0 : Int32) : Option (Int32 × CS) :=
  (alB o z ((1 : Int32) <<< (s0 &&& 31))).bind fun u5 =>
  (lpN (fun u => fX9_made_L134 o u.2 l2 l3 l4 l6 s0 u5.1 u.1) bigN ((0 : Int32), u5.2)).bind fun e12 =>
  (fX9_plainTask o e12 (0 : Int32) s0 u5.1).bind fun q13 =>
  (stQT q13.2 1 l2 (some q13.1)).bind fun z14 =>
  some (s0, z14)
def fX9_made_J101 (o : Nat) (z : CS) (l2 : Int32) (l3 : Int32) (l4 : Int32) (l6 : Option Nat) (l7 : Int32) : Option (Int32 × CS) :=
  if l7 = 0 then
    (l6).bind fun ad3 =>
    (dT z ad3).bind fun t4 =>
    fX9_made_J121 o z l2 l3 l4 ad3 t4.2.1
  else
    (l6).bind fun ad15 =>
    (dT z ad15).bind fun t16 =>
    fX9_made_J121 o z l2 l3 l4 ad15 (t16.2.1 - (1 : Int32))
def fX9_made_J82 (o : Nat) (z : CS) (l2 : Int32) (l3 : Int32) (l4 : Int32) (l6 : Option Nat) (s0 : Int32) : Option (Int32 × CS) :=
  if s0 = 0 then
    fX9_made_J101 o z l2 l3 l4 l6 s0
  else
    (l6).bind fun ad17 =>
    (dT z ad17).bind fun t18 =>
    if t18.2.1 = (1 : Int32) then
      some ((-5 : Int32), z)
    else
      fX9_made_J101 o z l2 l3 l4 (some ad17) s0
def fX9_made_J77 (o : Nat) (z : CS) (l2 : Int32) (l3 : Int32) (l4 : Int32) (l6 : Option Nat) : Option (Int32 × CS) :=
  fX9_made_J82 o z l2 l3 l4 l6 (1 : Int32)
def fX9_made_J67 (o : Nat) (z : CS) (l2 : Int32) (l3 : Int32) (l4 : Int32) (l6 : Option Nat) : Option (Int32 × CS) :=
  if l3 = (2 : Int32) then
    fX9_made_J77 o z l2 l3 l4 l6
  else
    if l3 = (3 : Int32) then
      fX9_made_J77 o z l2 l3 l4 l6
    else
      fX9_made_J82 o z l2 l3 l4 l6 (0 : Int32)
def fX9_made_J64 (o : Nat) (z : CS) : Option (Int32 × CS) :=
  some ((-2 : Int32), z)
def fX9_made_J26 (o : Nat) (z : CS) (l1 : Int32) (l2 : Int32) (l3 : Int32) (l4 : Int32) (s0 : Int32) : Option (Int32 × CS) :=
  if s0 = 0 then
    (aQ 8 (z.2.2.1 1) l1).bind fun v2 =>
    if l3 < (2 : Int32) then
      fX9_made_J67 o z l2 l3 l4 v2
    else
      if l4 < 0 then
        fX9_made_J64 o z
      else
        (v2).bind fun ad19 =>
        (dT z ad19).bind fun t20 =>
        if l4 < t20.2.1 then
          fX9_made_J67 o z l2 l3 l4 (some ad19)
        else
          fX9_made_J64 o z
  else
    some (s0, z)
def fX9_made_J16 (o : Nat) (z : CS) (l1 : Int32) (l2 : Int32) (l3 : Int32) (l4 : Int32) : Option (Int32 × CS) :=
  fX9_made_J26 o z l1 l2 l3 l4 (-2 : Int32)
def fX9_made (o : Nat) (z : CS) (a1 : Int32) (a2 : Int32) (a3 : Int32) (a4 : Int32) : Option (Int32 × CS) :=
  (fX9_isPlace a2).bind fun q1 =>
  if q1 = 0 then
    fX9_made_J16 o z a1 a2 a3 a4
  else
    if a3 < 0 then
      fX9_made_J16 o z a1 a2 a3 a4
    else
      if a3 ≤ (4 : Int32) then
        (fX9_findingOfTask o z a1).bind fun q21 =>
        fX9_made_J26 o q21.2 a1 a2 a3 a4 q21.1
      else
        fX9_made_J16 o z a1 a2 a3 a4
set_option maxHeartbeats 4000000 in
set_option maxRecDepth 100000 in
theorem tX9_made_L134 {κ : KK} {p : Program} {l : Launch} {e : Env} {s : State} {m : MethodId} {args : Array Value} {below : List Frame} {meth : Method} {c : Code} (C : Cx κ p s m args meth c cX9_made 13 RX9 (some .int)) {o : Nat} {v : Option Value} {B' : Heap → Prop} {z : CS} {l2 : Int32} {l3 : Int32} {l4 : Int32} {l6 : Nat} {l8 : Int32} {l9 : Nat} {l10 : Int32} {y : (Int32 × CS) ⊕ CS} (h : fX9_made_L134 o z l2 l3 l4 l6 l8 l9 l10 = some y) (kc : ∀ u, y = .inl u → GC κ p l e s m args below meth c rmX9_made 13 o v B' 1 256 u.2 134 [(0, .ref o), (2, .int l2), (3, .int l3), (4, .int l4), (6, .ref l6), (8, .int l8), (9, .ref l9), (10, .int u.1)] []) (kx : ∀ w, y = .inr w → GC κ p l e s m args below meth c rmX9_made 13 o v B' 1 256 w 204 [(0, .ref o), (2, .int l2), (8, .int l8), (9, .ref l9)] []) : GC κ p l e s m args below meth c rmX9_made 13 o v B' 1 256 z 134 [(0, .ref o), (2, .int l2), (3, .int l3), (4, .int l4), (6, .ref l6), (8, .int l8), (9, .ref l9), (10, .int l10)] [] := by
  have J196 : ∀ (z : CS) (l10 : Int32) (s0 : Int32) (s1 : Int32) (s2 : Nat), fX9_made_L134_J196 o z l2 l3 l4 l6 l8 l9 l10 s0 s1 s2 = some y → GC κ p l e s m args below meth c rmX9_made 13 o v B' 1 256 z 196 [(0, .ref o), (2, .int l2), (3, .int l3), (4, .int l4), (6, .ref l6), (8, .int l8), (9, .ref l9), (10, .int l10)] [.int s0, .int s1, .ref s2] := by
    intro z l10 s0 s1 s2 h
    unfold fX9_made_L134_J196 at h
    refine G_i2b (pc' := 197) C dX9_made_196 rfl ?_
    replace h := ob h
    obtain ⟨z11, hz11, h⟩ := h
    refine P_bast (pc' := 198) C dX9_made_197 hz11 rfl ?_
    refine G_iinc (pc' := 201) C dX9_made_198 7 rfl rfl [(10, .int (l10 + (1 : Int32))), (0, .ref o), (2, .int l2), (3, .int l3), (4, .int l4), (6, .ref l6), (8, .int l8), (9, .ref l9)] (by decide) rfl rfl ?_
    refine G_goto (tgt := 134) C dX9_made_201 (by decide) ?_
    exact G_sub (lv' := [(0, .ref o), (2, .int l2), (3, .int l3), (4, .int l4), (6, .ref l6), (8, .int l8), (9, .ref l9), (10, .int (l10 + (1 : Int32)))]) [1, 2, 3, 4, 5, 6, 7, 0] rfl (kc ((l10 + (1 : Int32)), z11) (Option.some.inj h).symm)
  have J176 : ∀ (z : CS) (l10 : Int32) (l11 : Int32) (s0 : Int32), fX9_made_L134_J176 o z l2 l3 l4 l6 l8 l9 l10 l11 s0 = some y → GC κ p l e s m args below meth c rmX9_made 13 o v B' 1 256 z 176 [(0, .ref o), (2, .int l2), (3, .int l3), (4, .int l4), (6, .ref l6), (8, .int l8), (9, .ref l9), (10, .int l10), (11, .int l11)] [.int s0] := by
    intro z l10 l11 s0 h
    unfold fX9_made_L134_J176 at h
    refine G_istore (pc' := 178) C dX9_made_176 [(12, .int s0), (0, .ref o), (2, .int l2), (3, .int l3), (4, .int l4), (6, .ref l6), (8, .int l8), (9, .ref l9), (10, .int l10), (11, .int l11)] (by decide) rfl rfl ?_
    refine G_aload (pc' := 180) C dX9_made_178 7 rfl rfl ?_
    refine G_iload (pc' := 182) C dX9_made_180 8 rfl rfl ?_
    refine G_iload (pc' := 184) C dX9_made_182 0 rfl rfl ?_
    refine G_if_eq (tgt := 194) (pc' := 187) C dX9_made_184 (by decide) rfl (fun hc => ?_) (fun hc => ?_)
    · replace h := z_ip hc h
      refine G_iload (pc' := 196) C dX9_made_194 9 rfl rfl ?_
      exact G_sub (lv' := [(0, .ref o), (2, .int l2), (3, .int l3), (4, .int l4), (6, .ref l6), (8, .int l8), (9, .ref l9), (10, .int l10)]) [1, 2, 3, 4, 5, 6, 7, 8] rfl (J196 z l10 l11 l10 l9 h)
    · replace h := z_in hc h
      refine G_iconst (pc' := 188) (v := (1 : Int32)) C dX9_made_187 (by decide) rfl ?_
      refine G_iload (pc' := 190) C dX9_made_188 9 rfl rfl ?_
      refine G_isub (pc' := 191) C dX9_made_190 rfl ?_
      refine G_goto (tgt := 196) C dX9_made_191 (by decide) ?_
      exact G_sub (lv' := [(0, .ref o), (2, .int l2), (3, .int l3), (4, .int l4), (6, .ref l6), (8, .int l8), (9, .ref l9), (10, .int l10)]) [1, 2, 3, 4, 5, 6, 7, 8] rfl (J196 z l10 ((1 : Int32) - l11) l10 l9 h)
  have J175 : ∀ (z : CS) (l10 : Int32) (l11 : Int32), fX9_made_L134_J175 o z l2 l3 l4 l6 l8 l9 l10 l11 = some y → GC κ p l e s m args below meth c rmX9_made 13 o v B' 1 256 z 175 [(0, .ref o), (2, .int l2), (3, .int l3), (4, .int l4), (6, .ref l6), (8, .int l8), (9, .ref l9), (10, .int l10), (11, .int l11)] [] := by
    intro z l10 l11 h
    unfold fX9_made_L134_J175 at h
    refine G_iconst (pc' := 176) (v := (0 : Int32)) C dX9_made_175 (by decide) rfl ?_
    exact G_sub (lv' := [(0, .ref o), (2, .int l2), (3, .int l3), (4, .int l4), (6, .ref l6), (8, .int l8), (9, .ref l9), (10, .int l10), (11, .int l11)]) [0, 1, 2, 3, 4, 5, 6, 7, 8] rfl (J176 z l10 l11 (0 : Int32) h)
  unfold fX9_made_L134 at h
  refine G_iload (pc' := 136) C dX9_made_134 7 rfl rfl ?_
  refine G_aload (pc' := 138) C dX9_made_136 6 rfl rfl ?_
  replace h := ob h
  obtain ⟨v6, hv6, h⟩ := h
  refine P_lenB (pc' := 139) C dX9_made_138 hv6 rfl ?_
  refine G_icmp_ge (tgt := 204) (pc' := 142) C dX9_made_139 (by decide) rfl (fun hc => ?_) (fun hc => ?_)
  · replace h := z_ip hc h
    exact G_sub (lv' := [(0, .ref o), (2, .int l2), (8, .int l8), (9, .ref l9)]) [0, 1, 5, 6] rfl (kx _ (Option.some.inj h).symm)
  · replace h := z_in hc h
    refine G_aload (pc' := 144) C dX9_made_142 4 rfl rfl ?_
    replace h := ob h
    obtain ⟨t7, ht7, h⟩ := h
    refine G_get (pc' := 147) (k := 3) C fi_X8 dX9_made_144 tw_fl_X9_155 rfl (by decide) (CB_T ht7) rfl rfl ?_
    refine G_aload (pc' := 149) C dX9_made_147 4 rfl rfl ?_
    refine G_iload_n (pc' := 150) C dX9_made_149 2 rfl rfl ?_
    refine G_iload (pc' := 152) C dX9_made_150 3 rfl rfl ?_
    refine G_iload (pc' := 154) C dX9_made_152 7 rfl rfl ?_
    replace h := ob h
    obtain ⟨q8, hq8, h⟩ := h
    refine G_cS0 (pc' := 157) C dX9_made_154 (tX9_madeFrom κ l o z l6 l3 l4 l10 q8 hq8) (wS tw_ml_X9_212 tw_st_X9_madeFrom tw_co_X9_madeFrom tw_in_X9) yd_X9_madeFrom rfl rfl rfl (by decide) rfl (cat_le (Nat.le_of_ble_eq_true rfl)) rfl rfl ?_
    replace h := ob h
    obtain ⟨ad9, had9, h⟩ := h
    rw [had9]
    replace h := ob h
    obtain ⟨v10, hv10, h⟩ := h
    refine P_bald (pc' := 158) C dX9_made_157 hv10 rfl ?_
    refine G_istore (pc' := 160) C dX9_made_158 [(11, .int v10), (0, .ref o), (2, .int l2), (3, .int l3), (4, .int l4), (6, .ref l6), (8, .int l8), (9, .ref l9), (10, .int l10)] (by decide) rfl rfl ?_
    refine G_iload_n (pc' := 161) C dX9_made_160 3 rfl rfl ?_
    refine G_iconst (pc' := 162) (v := (2 : Int32)) C dX9_made_161 (by decide) rfl ?_
    refine G_icmp_ge (tgt := 175) (pc' := 165) C dX9_made_162 (by decide) rfl (fun hc => ?_) (fun hc => ?_)
    · replace h := z_ip hc h
      exact G_sub (lv' := [(0, .ref o), (2, .int l2), (3, .int l3), (4, .int l4), (6, .ref l6), (8, .int l8), (9, .ref l9), (10, .int l10), (11, .int v10)]) [1, 2, 3, 4, 5, 6, 7, 8, 0] rfl (J175 z l10 v10 h)
    · replace h := z_in hc h
      refine G_iload (pc' := 167) C dX9_made_165 0 rfl rfl ?_
      refine G_iconst (pc' := 168) (v := (2 : Int32)) C dX9_made_167 (by decide) rfl ?_
      refine G_icmp_eq (tgt := 175) (pc' := 171) C dX9_made_168 (by decide) rfl (fun hc => ?_) (fun hc => ?_)
      · replace h := z_ip hc h
        exact G_sub (lv' := [(0, .ref o), (2, .int l2), (3, .int l3), (4, .int l4), (6, .ref l6), (8, .int l8), (9, .ref l9), (10, .int l10), (11, .int v10)]) [1, 2, 3, 4, 5, 6, 7, 8, 0] rfl (J175 z l10 v10 h)
      · replace h := z_in hc h
        refine G_iconst (pc' := 172) (v := (1 : Int32)) C dX9_made_171 (by decide) rfl ?_
        refine G_goto (tgt := 176) C dX9_made_172 (by decide) ?_
        exact G_sub (lv' := [(0, .ref o), (2, .int l2), (3, .int l3), (4, .int l4), (6, .ref l6), (8, .int l8), (9, .ref l9), (10, .int l10), (11, .int v10)]) [1, 2, 3, 4, 5, 6, 7, 8, 0] rfl (J176 z l10 v10 (1 : Int32) h)
set_option maxHeartbeats 4000000 in
set_option maxRecDepth 100000 in
theorem tX9_made (κ : KK) (l : Launch) (o : Nat) (z : CS) (a1 : Int32) (a2 : Int32) (a3 : Int32) (a4 : Int32) (q : Int32 × CS) (h : fX9_made o z a1 a2 a3 a4 = some q) : MM κ l yX9_made cX9_made 13 (some .int) rmX9_made (CA o) [.ref o, .int a1, .int a2, .int a3, .int a4] (CB κ o z) (some (Value.int q.1)) (CB κ o q.2) := by
  refine MM.of (by decide +kernel) (Nat.le_of_ble_eq_true rfl) ?_
  intro p e s m below meth c C hnm
  have J121 : ∀ (z : CS) (l2 : Int32) (l3 : Int32) (l4 : Int32) (l6 : Nat) (s0 : Int32), fX9_made_J121 o z l2 l3 l4 l6 s0 = some q → GC κ p l e s m ([.ref o, .int a1, .int a2, .int a3, .int a4] : List Value).toArray below meth c rmX9_made 13 o (some (Value.int q.1)) (CB κ o q.2) 0 0 z 121 [(0, .ref o), (2, .int l2), (3, .int l3), (4, .int l4), (6, .ref l6)] [.int s0] := by
    intro z l2 l3 l4 l6 s0 h
    unfold fX9_made_J121 at h
    refine G_istore (pc' := 123) C dX9_made_121 [(8, .int s0), (0, .ref o), (2, .int l2), (3, .int l3), (4, .int l4), (6, .ref l6)] (by decide) rfl rfl ?_
    refine G_iconst (pc' := 124) (v := (1 : Int32)) C dX9_made_123 (by decide) rfl ?_
    refine G_iload (pc' := 126) C dX9_made_124 0 rfl rfl ?_
    refine G_ishl (pc' := 127) C dX9_made_126 rfl ?_
    replace h := ob h
    obtain ⟨u5, hu5, h⟩ := h
    refine P_newB (pc' := 129) C dX9_made_127 hu5 (by decide) rfl ?_
    refine G_astore (pc' := 131) C dX9_made_129 [(9, .ref u5.1), (8, .int s0), (0, .ref o), (2, .int l2), (3, .int l3), (4, .int l4), (6, .ref l6)] (by decide) rfl rfl ?_
    refine G_iconst (pc' := 132) (v := (0 : Int32)) C dX9_made_131 (by decide) rfl ?_
    refine G_istore (pc' := 134) C dX9_made_132 [(10, .int (0 : Int32)), (9, .ref u5.1), (8, .int s0), (0, .ref o), (2, .int l2), (3, .int l3), (4, .int l4), (6, .ref l6)] (by decide) rfl rfl ?_
    replace h := ob h
    obtain ⟨e12, hle12, h⟩ := h
    refine G_sub (lv' := [(0, .ref o), (2, .int l2), (3, .int l3), (4, .int l4), (6, .ref l6), (8, .int s0), (9, .ref u5.1), (10, .int (0 : Int32))]) [3, 4, 5, 6, 7, 2, 1, 0] rfl ?_
    refine lpN_ind (body := fun u => fX9_made_L134 o u.2 l2 l3 l4 l6 s0 u5.1 u.1) (P := fun u => GC κ p l e s m ([.ref o, .int a1, .int a2, .int a3, .int a4] : List Value).toArray below meth c rmX9_made 13 o (some (Value.int q.1)) (CB κ o q.2) 1 256 u.2 134 [(0, .ref o), (2, .int l2), (3, .int l3), (4, .int l4), (6, .ref l6), (8, .int s0), (9, .ref u5.1), (10, .int u.1)] []) (X := fun w => GC κ p l e s m ([.ref o, .int a1, .int a2, .int a3, .int a4] : List Value).toArray below meth c rmX9_made 13 o (some (Value.int q.1)) (CB κ o q.2) 1 256 w 204 [(0, .ref o), (2, .int l2), (8, .int s0), (9, .ref u5.1)] []) (fun u y hb kc kx => tX9_made_L134 C hb kc kx) _ _ _ hle12 ?_
    refine G_aload_n (pc' := 205) C dX9_made_204 0 rfl rfl ?_
    refine G_get (pc' := 208) (k := 1) C fi_X9 dX9_made_205 tw_fl_X9_17 rfl (by decide) (CB_rd 0 rfl) rfl rfl ?_
    refine G_iload_n (pc' := 209) C dX9_made_208 1 rfl rfl ?_
    refine G_iconst (pc' := 210) (v := (0 : Int32)) C dX9_made_209 (by decide) rfl ?_
    refine G_iload (pc' := 212) C dX9_made_210 2 rfl rfl ?_
    refine G_aload (pc' := 214) C dX9_made_212 3 rfl rfl ?_
    replace h := ob h
    obtain ⟨q13, hq13, h⟩ := h
    refine G_cS (pc' := 217) C dX9_made_214 (tX9_plainTask κ l o e12 (0 : Int32) s0 u5.1 q13 hq13) (wS tw_ml_X9_138 tw_st_X9_plainTask tw_co_X9_plainTask tw_in_X9) yd_X9_plainTask rfl (by decide) rfl (Nat.le_of_ble_eq_true rfl) rfl rfl ?_
    replace h := ob h
    obtain ⟨z14, hz14, h⟩ := h
    refine C_q_places (pc' := 218) (x := (some q13.1)) C dX9_made_217 hz14 rfl ?_
    refine G_iload (pc' := 220) C dX9_made_218 2 rfl rfl ?_
    refine G_widen (k := rmX9_made.cells) (n := rmX9_made.slots) (by decide) (by decide) ?_
    obtain rfl := Option.some.inj h
    exact G_iret C dX9_made_220 (fun _ h => h)
  have J101 : ∀ (z : CS) (l2 : Int32) (l3 : Int32) (l4 : Int32) (l6 : Option Nat) (l7 : Int32), fX9_made_J101 o z l2 l3 l4 l6 l7 = some q → GC κ p l e s m ([.ref o, .int a1, .int a2, .int a3, .int a4] : List Value).toArray below meth c rmX9_made 13 o (some (Value.int q.1)) (CB κ o q.2) 0 0 z 101 [(0, .ref o), (2, .int l2), (3, .int l3), (4, .int l4), (6, va_rf l6), (7, .int l7)] [] := by
    intro z l2 l3 l4 l6 l7 h
    unfold fX9_made_J101 at h
    refine G_iload (pc' := 103) C dX9_made_101 5 rfl rfl ?_
    refine G_if_eq (tgt := 116) (pc' := 106) C dX9_made_103 (by decide) rfl (fun hc => ?_) (fun hc => ?_)
    · replace h := z_ip hc h
      refine G_qload (pc' := 118) C dX9_made_116 4 rfl rfl ?_
      replace h := ob h
      obtain ⟨ad3, had3, h⟩ := h
      subst had3
      replace h := ob h
      obtain ⟨t4, ht4, h⟩ := h
      refine G_get (pc' := 121) (k := 1) C fi_X8 dX9_made_118 tw_fl_X9_152 rfl (by decide) (CB_T ht4) rfl rfl ?_
      exact G_sub (lv' := [(0, .ref o), (2, .int l2), (3, .int l3), (4, .int l4), (6, .ref ad3)]) [0, 1, 2, 3, 4] rfl (J121 z l2 l3 l4 ad3 t4.2.1 h)
    · replace h := z_in hc h
      refine G_qload (pc' := 108) C dX9_made_106 4 rfl rfl ?_
      replace h := ob h
      obtain ⟨ad15, had15, h⟩ := h
      subst had15
      replace h := ob h
      obtain ⟨t16, ht16, h⟩ := h
      refine G_get (pc' := 111) (k := 1) C fi_X8 dX9_made_108 tw_fl_X9_152 rfl (by decide) (CB_T ht16) rfl rfl ?_
      refine G_iconst (pc' := 112) (v := (1 : Int32)) C dX9_made_111 (by decide) rfl ?_
      refine G_isub (pc' := 113) C dX9_made_112 rfl ?_
      refine G_goto (tgt := 121) C dX9_made_113 (by decide) ?_
      exact G_sub (lv' := [(0, .ref o), (2, .int l2), (3, .int l3), (4, .int l4), (6, .ref ad15)]) [0, 1, 2, 3, 4] rfl (J121 z l2 l3 l4 ad15 (t16.2.1 - (1 : Int32)) h)
  have J82 : ∀ (z : CS) (l2 : Int32) (l3 : Int32) (l4 : Int32) (l6 : Option Nat) (s0 : Int32), fX9_made_J82 o z l2 l3 l4 l6 s0 = some q → GC κ p l e s m ([.ref o, .int a1, .int a2, .int a3, .int a4] : List Value).toArray below meth c rmX9_made 13 o (some (Value.int q.1)) (CB κ o q.2) 0 0 z 82 [(0, .ref o), (2, .int l2), (3, .int l3), (4, .int l4), (6, va_rf l6)] [.int s0] := by
    intro z l2 l3 l4 l6 s0 h
    unfold fX9_made_J82 at h
    refine G_istore (pc' := 84) C dX9_made_82 [(7, .int s0), (0, .ref o), (2, .int l2), (3, .int l3), (4, .int l4), (6, va_rf l6)] (by decide) (by simp [List.filter, rf_cat]) rfl ?_
    refine G_iload (pc' := 86) C dX9_made_84 0 rfl rfl ?_
    refine G_if_eq (tgt := 101) (pc' := 89) C dX9_made_86 (by decide) rfl (fun hc => ?_) (fun hc => ?_)
    · replace h := z_ip hc h
      exact G_sub (lv' := [(0, .ref o), (2, .int l2), (3, .int l3), (4, .int l4), (6, va_rf l6), (7, .int s0)]) [1, 2, 3, 4, 5, 0] rfl (J101 z l2 l3 l4 l6 s0 h)
    · replace h := z_in hc h
      refine G_qload (pc' := 91) C dX9_made_89 5 rfl rfl ?_
      replace h := ob h
      obtain ⟨ad17, had17, h⟩ := h
      subst had17
      replace h := ob h
      obtain ⟨t18, ht18, h⟩ := h
      refine G_get (pc' := 94) (k := 1) C fi_X8 dX9_made_91 tw_fl_X9_152 rfl (by decide) (CB_T ht18) rfl rfl ?_
      refine G_iconst (pc' := 95) (v := (1 : Int32)) C dX9_made_94 (by decide) rfl ?_
      refine G_icmp_ne (tgt := 101) (pc' := 98) C dX9_made_95 (by decide) rfl (fun hc => ?_) (fun hc => ?_)
      · replace h := z_in hc h
        exact G_sub (lv' := [(0, .ref o), (2, .int l2), (3, .int l3), (4, .int l4), (6, .ref ad17), (7, .int s0)]) [1, 2, 3, 4, 5, 0] rfl (J101 z l2 l3 l4 (some ad17) s0 h)
      · replace h := z_ip hc h
        refine G_bipush (pc' := 100) (v := (-5 : Int32)) C dX9_made_98 (by decide) rfl ?_
        refine G_widen (k := rmX9_made.cells) (n := rmX9_made.slots) (by decide) (by decide) ?_
        obtain rfl := Option.some.inj h
        exact G_iret C dX9_made_100 (fun _ h => h)
  have J77 : ∀ (z : CS) (l2 : Int32) (l3 : Int32) (l4 : Int32) (l6 : Option Nat), fX9_made_J77 o z l2 l3 l4 l6 = some q → GC κ p l e s m ([.ref o, .int a1, .int a2, .int a3, .int a4] : List Value).toArray below meth c rmX9_made 13 o (some (Value.int q.1)) (CB κ o q.2) 0 0 z 77 [(0, .ref o), (2, .int l2), (3, .int l3), (4, .int l4), (6, va_rf l6)] [] := by
    intro z l2 l3 l4 l6 h
    unfold fX9_made_J77 at h
    refine G_iconst (pc' := 78) (v := (1 : Int32)) C dX9_made_77 (by decide) rfl ?_
    refine G_goto (tgt := 82) C dX9_made_78 (by decide) ?_
    exact G_sub (lv' := [(0, .ref o), (2, .int l2), (3, .int l3), (4, .int l4), (6, va_rf l6)]) [0, 1, 2, 3, 4] rfl (J82 z l2 l3 l4 l6 (1 : Int32) h)
  have J67 : ∀ (z : CS) (l2 : Int32) (l3 : Int32) (l4 : Int32) (l6 : Option Nat), fX9_made_J67 o z l2 l3 l4 l6 = some q → GC κ p l e s m ([.ref o, .int a1, .int a2, .int a3, .int a4] : List Value).toArray below meth c rmX9_made 13 o (some (Value.int q.1)) (CB κ o q.2) 0 0 z 67 [(0, .ref o), (2, .int l2), (3, .int l3), (4, .int l4), (6, va_rf l6)] [] := by
    intro z l2 l3 l4 l6 h
    unfold fX9_made_J67 at h
    refine G_iload_n (pc' := 68) C dX9_made_67 2 rfl rfl ?_
    refine G_iconst (pc' := 69) (v := (2 : Int32)) C dX9_made_68 (by decide) rfl ?_
    refine G_icmp_eq (tgt := 77) (pc' := 72) C dX9_made_69 (by decide) rfl (fun hc => ?_) (fun hc => ?_)
    · replace h := z_ip hc h
      exact G_sub (lv' := [(0, .ref o), (2, .int l2), (3, .int l3), (4, .int l4), (6, va_rf l6)]) [0, 1, 2, 3, 4] rfl (J77 z l2 l3 l4 l6 h)
    · replace h := z_in hc h
      refine G_iload_n (pc' := 73) C dX9_made_72 2 rfl rfl ?_
      refine G_iconst (pc' := 74) (v := (3 : Int32)) C dX9_made_73 (by decide) rfl ?_
      refine G_icmp_ne (tgt := 81) (pc' := 77) C dX9_made_74 (by decide) rfl (fun hc => ?_) (fun hc => ?_)
      · replace h := z_in hc h
        refine G_iconst (pc' := 82) (v := (0 : Int32)) C dX9_made_81 (by decide) rfl ?_
        exact G_sub (lv' := [(0, .ref o), (2, .int l2), (3, .int l3), (4, .int l4), (6, va_rf l6)]) [0, 1, 2, 3, 4] rfl (J82 z l2 l3 l4 l6 (0 : Int32) h)
      · replace h := z_ip hc h
        exact G_sub (lv' := [(0, .ref o), (2, .int l2), (3, .int l3), (4, .int l4), (6, va_rf l6)]) [0, 1, 2, 3, 4] rfl (J77 z l2 l3 l4 l6 h)
  have J64 : ∀ (z : CS), fX9_made_J64 o z = some q → GC κ p l e s m ([.ref o, .int a1, .int a2, .int a3, .int a4] : List Value).toArray below meth c rmX9_made 13 o (some (Value.int q.1)) (CB κ o q.2) 0 0 z 64 [] [] := by
    intro z h
    unfold fX9_made_J64 at h
    refine G_bipush (pc' := 66) (v := (-2 : Int32)) C dX9_made_64 (by decide) rfl ?_
    refine G_widen (k := rmX9_made.cells) (n := rmX9_made.slots) (by decide) (by decide) ?_
    obtain rfl := Option.some.inj h
    exact G_iret C dX9_made_66 (fun _ h => h)
  have J26 : ∀ (z : CS) (l1 : Int32) (l2 : Int32) (l3 : Int32) (l4 : Int32) (s0 : Int32), fX9_made_J26 o z l1 l2 l3 l4 s0 = some q → GC κ p l e s m ([.ref o, .int a1, .int a2, .int a3, .int a4] : List Value).toArray below meth c rmX9_made 13 o (some (Value.int q.1)) (CB κ o q.2) 0 0 z 26 [(0, .ref o), (1, .int l1), (2, .int l2), (3, .int l3), (4, .int l4)] [.int s0] := by
    intro z l1 l2 l3 l4 s0 h
    unfold fX9_made_J26 at h
    refine G_istore (pc' := 28) C dX9_made_26 [(5, .int s0), (0, .ref o), (1, .int l1), (2, .int l2), (3, .int l3), (4, .int l4)] (by decide) rfl rfl ?_
    refine G_iload (pc' := 30) C dX9_made_28 0 rfl rfl ?_
    refine G_if_eq (tgt := 36) (pc' := 33) C dX9_made_30 (by decide) rfl (fun hc => ?_) (fun hc => ?_)
    · replace h := z_ip hc h
      refine G_aload_n (pc' := 37) C dX9_made_36 1 rfl rfl ?_
      refine G_get (pc' := 40) (k := 1) C fi_X9 dX9_made_37 tw_fl_X9_17 rfl (by decide) (CB_rd 0 rfl) rfl rfl ?_
      refine G_iload_n (pc' := 41) C dX9_made_40 2 rfl rfl ?_
      replace h := ob h
      obtain ⟨v2, hv2, h⟩ := h
      refine G_aald5V (pc' := 42) C dX9_made_41 (CB_rd 2 rfl) hv2 rfl ?_
      refine G_qstore (pc' := 44) C dX9_made_42 [(6, va_rf v2), (5, .int s0), (0, .ref o), (1, .int l1), (2, .int l2), (3, .int l3), (4, .int l4)] (by decide) rfl rfl ?_
      refine G_iload_n (pc' := 45) C dX9_made_44 5 rfl rfl ?_
      refine G_iconst (pc' := 46) (v := (2 : Int32)) C dX9_made_45 (by decide) rfl ?_
      refine G_icmp_lt (tgt := 67) (pc' := 49) C dX9_made_46 (by decide) rfl (fun hc => ?_) (fun hc => ?_)
      · replace h := z_ip hc h
        exact G_sub (lv' := [(0, .ref o), (2, .int l2), (3, .int l3), (4, .int l4), (6, va_rf v2)]) [2, 4, 5, 6, 0] rfl (J67 z l2 l3 l4 v2 h)
      · replace h := z_in hc h
        refine G_iload (pc' := 51) C dX9_made_49 6 rfl rfl ?_
        refine G_if_lt (tgt := 64) (pc' := 54) C dX9_made_51 (by decide) rfl (fun hc => ?_) (fun hc => ?_)
        · replace h := z_ip hc h
          exact G_sub (lv' := []) [] rfl (J64 z h)
        · replace h := z_in hc h
          refine G_iload (pc' := 56) C dX9_made_54 6 rfl rfl ?_
          refine G_qload (pc' := 58) C dX9_made_56 0 rfl rfl ?_
          replace h := ob h
          obtain ⟨ad19, had19, h⟩ := h
          subst had19
          replace h := ob h
          obtain ⟨t20, ht20, h⟩ := h
          refine G_get (pc' := 61) (k := 1) C fi_X8 dX9_made_58 tw_fl_X9_152 rfl (by decide) (CB_T ht20) rfl rfl ?_
          refine G_icmp_lt (tgt := 67) (pc' := 64) C dX9_made_61 (by decide) rfl (fun hc => ?_) (fun hc => ?_)
          · replace h := z_ip hc h
            exact G_sub (lv' := [(0, .ref o), (2, .int l2), (3, .int l3), (4, .int l4), (6, .ref ad19)]) [2, 4, 5, 6, 0] rfl (J67 z l2 l3 l4 (some ad19) h)
          · replace h := z_in hc h
            exact G_sub (lv' := []) [] rfl (J64 z h)
    · replace h := z_in hc h
      refine G_iload (pc' := 35) C dX9_made_33 0 rfl rfl ?_
      refine G_widen (k := rmX9_made.cells) (n := rmX9_made.slots) (by decide) (by decide) ?_
      obtain rfl := Option.some.inj h
      exact G_iret C dX9_made_35 (fun _ h => h)
  have J16 : ∀ (z : CS) (l1 : Int32) (l2 : Int32) (l3 : Int32) (l4 : Int32), fX9_made_J16 o z l1 l2 l3 l4 = some q → GC κ p l e s m ([.ref o, .int a1, .int a2, .int a3, .int a4] : List Value).toArray below meth c rmX9_made 13 o (some (Value.int q.1)) (CB κ o q.2) 0 0 z 16 [(0, .ref o), (1, .int l1), (2, .int l2), (3, .int l3), (4, .int l4)] [] := by
    intro z l1 l2 l3 l4 h
    unfold fX9_made_J16 at h
    refine G_bipush (pc' := 18) (v := (-2 : Int32)) C dX9_made_16 (by decide) rfl ?_
    refine G_goto (tgt := 26) C dX9_made_18 (by decide) ?_
    exact G_sub (lv' := [(0, .ref o), (1, .int l1), (2, .int l2), (3, .int l3), (4, .int l4)]) [0, 1, 2, 3, 4] rfl (J26 z l1 l2 l3 l4 (-2 : Int32) h)
  unfold fX9_made at h
  refine G_sub (lv' := [(0, .ref o), (1, .int a1), (2, .int a2), (3, .int a3), (4, .int a4)]) [0, 1, 2, 3, 4] rfl ?_
  refine G_iload_n (pc' := 1) C dX9_made_0 2 rfl rfl ?_
  replace h := ob h
  obtain ⟨q1, hq1, h⟩ := h
  refine G_cS0 (pc' := 4) C dX9_made_1 (tX9_isPlace κ l (CA o) (CB κ o z) a2 q1 hq1) (wS tw_ml_X9_131 tw_st_X9_isPlace tw_co_X9_isPlace tw_in_X9) yd_X9_isPlace rfl rfl rfl (by decide) rfl (Nat.le_of_ble_eq_true rfl) rfl rfl ?_
  refine G_if_eq (tgt := 16) (pc' := 7) C dX9_made_4 (by decide) rfl (fun hc => ?_) (fun hc => ?_)
  · replace h := z_ip hc h
    exact G_sub (lv' := [(0, .ref o), (1, .int a1), (2, .int a2), (3, .int a3), (4, .int a4)]) [0, 1, 2, 3, 4] rfl (J16 z a1 a2 a3 a4 h)
  · replace h := z_in hc h
    refine G_iload_n (pc' := 8) C dX9_made_7 3 rfl rfl ?_
    refine G_if_lt (tgt := 16) (pc' := 11) C dX9_made_8 (by decide) rfl (fun hc => ?_) (fun hc => ?_)
    · replace h := z_ip hc h
      exact G_sub (lv' := [(0, .ref o), (1, .int a1), (2, .int a2), (3, .int a3), (4, .int a4)]) [0, 1, 2, 3, 4] rfl (J16 z a1 a2 a3 a4 h)
    · replace h := z_in hc h
      refine G_iload_n (pc' := 12) C dX9_made_11 3 rfl rfl ?_
      refine G_iconst (pc' := 13) (v := (4 : Int32)) C dX9_made_12 (by decide) rfl ?_
      refine G_icmp_le (tgt := 21) (pc' := 16) C dX9_made_13 (by decide) rfl (fun hc => ?_) (fun hc => ?_)
      · replace h := z_ip hc h
        refine G_aload_n (pc' := 22) C dX9_made_21 0 rfl rfl ?_
        refine G_iload_n (pc' := 23) C dX9_made_22 1 rfl rfl ?_
        replace h := ob h
        obtain ⟨q21, hq21, h⟩ := h
        refine G_cV0 (pc' := 26) C dX9_made_23 (tX9_findingOfTask κ l o z a1 q21 hq21) (wV tw_ml_X9_145 tw_im_X9_findingOfTask tw_se_X9_X9_findingOfTask tw_in_X9 tw_co_X9_findingOfTask) yd_X9_findingOfTask rfl fi_X9 (CB_rd 0 rfl) rfl rfl (by decide) rfl (Nat.le_of_ble_eq_true rfl) rfl rfl ?_
        exact G_sub (lv' := [(0, .ref o), (1, .int a1), (2, .int a2), (3, .int a3), (4, .int a4)]) [0, 1, 2, 3, 4] rfl (J26 q21.2 a1 a2 a3 a4 q21.1 h)
      · replace h := z_in hc h
        exact G_sub (lv' := [(0, .ref o), (1, .int a1), (2, .int a2), (3, .int a3), (4, .int a4)]) [0, 1, 2, 3, 4] rfl (J16 z a1 a2 a3 a4 h)
theorem dX9_same_0 : decode cX9_same 0 = .ok (.iload_n 2, 1) := by decide +kernel
theorem dX9_same_1 : decode cX9_same 1 = .ok (.invokestatic 131, 3) := by decide +kernel
theorem dX9_same_4 : decode cX9_same 4 = .ok (.ifCond .ne 8, 3) := by decide +kernel
theorem dX9_same_7 : decode cX9_same 7 = .ok (.bipush (-2), 2) := by decide +kernel
theorem dX9_same_9 : decode cX9_same 9 = .ok (.goto 8, 3) := by decide +kernel
theorem dX9_same_12 : decode cX9_same 12 = .ok (.aload_n 0, 1) := by decide +kernel
theorem dX9_same_13 : decode cX9_same 13 = .ok (.iload_n 1, 1) := by decide +kernel
theorem dX9_same_14 : decode cX9_same 14 = .ok (.invokevirtual 145, 3) := by decide +kernel
theorem dX9_same_17 : decode cX9_same 17 = .ok (.istore_n 3, 1) := by decide +kernel
theorem dX9_same_18 : decode cX9_same 18 = .ok (.iload_n 3, 1) := by decide +kernel
theorem dX9_same_19 : decode cX9_same 19 = .ok (.ifCond .ne 9, 3) := by decide +kernel
theorem dX9_same_22 : decode cX9_same 22 = .ok (.aload_n 0, 1) := by decide +kernel
theorem dX9_same_23 : decode cX9_same 23 = .ok (.iload_n 2, 1) := by decide +kernel
theorem dX9_same_24 : decode cX9_same 24 = .ok (.invokevirtual 145, 3) := by decide +kernel
theorem dX9_same_27 : decode cX9_same 27 = .ok (.istore_n 3, 1) := by decide +kernel
theorem dX9_same_28 : decode cX9_same 28 = .ok (.iload_n 3, 1) := by decide +kernel
theorem dX9_same_29 : decode cX9_same 29 = .ok (.ifCond .eq 5, 3) := by decide +kernel
theorem dX9_same_32 : decode cX9_same 32 = .ok (.iload_n 3, 1) := by decide +kernel
theorem dX9_same_33 : decode cX9_same 33 = .ok (.ireturn, 1) := by decide +kernel
theorem dX9_same_34 : decode cX9_same 34 = .ok (.aload_n 0, 1) := by decide +kernel
theorem dX9_same_35 : decode cX9_same 35 = .ok (.getfield 17, 3) := by decide +kernel
theorem dX9_same_38 : decode cX9_same 38 = .ok (.iload_n 1, 1) := by decide +kernel
theorem dX9_same_39 : decode cX9_same 39 = .ok (.aaload, 1) := by decide +kernel
theorem dX9_same_40 : decode cX9_same 40 = .ok (.getfield 155, 3) := by decide +kernel
theorem dX9_same_43 : decode cX9_same 43 = .ok (.astore 4, 2) := by decide +kernel
theorem dX9_same_45 : decode cX9_same 45 = .ok (.aload_n 0, 1) := by decide +kernel
theorem dX9_same_46 : decode cX9_same 46 = .ok (.getfield 17, 3) := by decide +kernel
theorem dX9_same_49 : decode cX9_same 49 = .ok (.iload_n 2, 1) := by decide +kernel
theorem dX9_same_50 : decode cX9_same 50 = .ok (.aaload, 1) := by decide +kernel
theorem dX9_same_51 : decode cX9_same 51 = .ok (.getfield 155, 3) := by decide +kernel
theorem dX9_same_54 : decode cX9_same 54 = .ok (.astore 5, 2) := by decide +kernel
theorem dX9_same_56 : decode cX9_same 56 = .ok (.aload 4, 2) := by decide +kernel
theorem dX9_same_58 : decode cX9_same 58 = .ok (.arraylength, 1) := by decide +kernel
theorem dX9_same_59 : decode cX9_same 59 = .ok (.aload 5, 2) := by decide +kernel
theorem dX9_same_61 : decode cX9_same 61 = .ok (.arraylength, 1) := by decide +kernel
theorem dX9_same_62 : decode cX9_same 62 = .ok (.if_icmp .ne 7, 3) := by decide +kernel
theorem dX9_same_65 : decode cX9_same 65 = .ok (.iconst 1, 1) := by decide +kernel
theorem dX9_same_66 : decode cX9_same 66 = .ok (.goto 4, 3) := by decide +kernel
theorem dX9_same_69 : decode cX9_same 69 = .ok (.iconst 0, 1) := by decide +kernel
theorem dX9_same_70 : decode cX9_same 70 = .ok (.istore 6, 2) := by decide +kernel
theorem dX9_same_72 : decode cX9_same 72 = .ok (.iconst 0, 1) := by decide +kernel
theorem dX9_same_73 : decode cX9_same 73 = .ok (.istore 7, 2) := by decide +kernel
theorem dX9_same_75 : decode cX9_same 75 = .ok (.iload 6, 2) := by decide +kernel
theorem dX9_same_77 : decode cX9_same 77 = .ok (.ifCond .eq 37, 3) := by decide +kernel
theorem dX9_same_80 : decode cX9_same 80 = .ok (.iload 7, 2) := by decide +kernel
theorem dX9_same_82 : decode cX9_same 82 = .ok (.aload 4, 2) := by decide +kernel
theorem dX9_same_84 : decode cX9_same 84 = .ok (.arraylength, 1) := by decide +kernel
theorem dX9_same_85 : decode cX9_same 85 = .ok (.if_icmp .ge 29, 3) := by decide +kernel
theorem dX9_same_88 : decode cX9_same 88 = .ok (.aload 4, 2) := by decide +kernel
theorem dX9_same_90 : decode cX9_same 90 = .ok (.iload 7, 2) := by decide +kernel
theorem dX9_same_92 : decode cX9_same 92 = .ok (.baload, 1) := by decide +kernel
theorem dX9_same_93 : decode cX9_same 93 = .ok (.aload 5, 2) := by decide +kernel
theorem dX9_same_95 : decode cX9_same 95 = .ok (.iload 7, 2) := by decide +kernel
theorem dX9_same_97 : decode cX9_same 97 = .ok (.baload, 1) := by decide +kernel
theorem dX9_same_98 : decode cX9_same 98 = .ok (.if_icmp .ne 7, 3) := by decide +kernel
theorem dX9_same_101 : decode cX9_same 101 = .ok (.iconst 1, 1) := by decide +kernel
theorem dX9_same_102 : decode cX9_same 102 = .ok (.goto 4, 3) := by decide +kernel
theorem dX9_same_105 : decode cX9_same 105 = .ok (.iconst 0, 1) := by decide +kernel
theorem dX9_same_106 : decode cX9_same 106 = .ok (.istore 6, 2) := by decide +kernel
theorem dX9_same_108 : decode cX9_same 108 = .ok (.iinc 7 1, 3) := by decide +kernel
theorem dX9_same_111 : decode cX9_same 111 = .ok (.goto (-36), 3) := by decide +kernel
theorem dX9_same_114 : decode cX9_same 114 = .ok (.iload 6, 2) := by decide +kernel
theorem dX9_same_116 : decode cX9_same 116 = .ok (.ifCond .eq 7, 3) := by decide +kernel
theorem dX9_same_119 : decode cX9_same 119 = .ok (.iconst 1, 1) := by decide +kernel
theorem dX9_same_120 : decode cX9_same 120 = .ok (.goto 4, 3) := by decide +kernel
theorem dX9_same_123 : decode cX9_same 123 = .ok (.iconst 0, 1) := by decide +kernel
theorem dX9_same_124 : decode cX9_same 124 = .ok (.ireturn, 1) := by decide +kernel
theorem yd_X9_same : yX9_same.cls = RX9 ∧ yX9_same.cls ≠ "java/lang/invoke/MethodHandle" ∧ yX9_same.cls ≠ "java/lang/invoke/VarHandle" ∧ (parseMethodDescriptor yX9_same.desc).map (fun d => d.parameters.length) = some 2 := by decide +kernel
abbrev rmX9_same : Room := { frames := 2, cells := 0, slots := 0, locals := 42 }
def fX9_same_L75_J106 (o : Nat) (z : CS) (l4 : Nat) (l5 : Nat) (l7 : Int32) (s0 : Int32) : Option ((Int32 × Int32) ⊕ Int32) :=
  some (.inl (s0, (l7 + (1 : Int32))))
def fX9_same_L75 (o : Nat) (z : CS) (l4 : Nat) (l5 : Nat) (l6 : Int32) (l7 : Int32) : Option ((Int32 × Int32) ⊕ Int32) :=
  if l6 = 0 then
    some (.inr l6)
  else
    (lnB z l4).bind fun v13 =>
    if v13 ≤ l7 then
      some (.inr l6)
    else
      (rdB z l4 l7).bind fun v14 =>
      (rdB z l5 l7).bind fun v15 =>
      if v14 = v15 then
        fX9_same_L75_J106 o z l4 l5 l7 (1 : Int32)
      else
        fX9_same_L75_J106 o z l4 l5 l7 (0 : Int32)
def fX9_same_J70 (o : Nat) (z : CS) (l4 : Nat) (l5 : Nat) (s0 : Int32) : Option (Int32 × CS) :=
  (lpN (fun u => fX9_same_L75 o z l4 l5 u.1 u.2) bigN (s0, (0 : Int32))).bind fun e16 =>
  if e16 = 0 then
    some ((0 : Int32), z)
  else
    some ((1 : Int32), z)
def fX9_same_J28 (o : Nat) (z : CS) (l1 : Int32) (l2 : Int32) (l3 : Int32) : Option (Int32 × CS) :=
  if l3 = 0 then
    (aQ 8 (z.2.2.1 1) l1).bind fun v3 =>
    (v3).bind fun ad4 =>
    (dT z ad4).bind fun t5 =>
    (aQ 8 (z.2.2.1 1) l2).bind fun v6 =>
    (v6).bind fun ad7 =>
    (dT z ad7).bind fun t8 =>
    (t5.2.2.2).bind fun ad9 =>
    (lnB z ad9).bind fun v10 =>
    (t8.2.2.2).bind fun ad11 =>
    (lnB z ad11).bind fun v12 =>
    if v10 = v12 then
      fX9_same_J70 o z ad9 ad11 (1 : Int32)
    else
      fX9_same_J70 o z ad9 ad11 (0 : Int32)
  else
    some (l3, z)
def fX9_same_J17 (o : Nat) (z : CS) (l1 : Int32) (l2 : Int32) (s0 : Int32) : Option (Int32 × CS) :=
  if s0 = 0 then
    (fX9_findingOfTask o z l2).bind fun q17 =>
    fX9_same_J28 o q17.2 l1 l2 q17.1
  else
    fX9_same_J28 o z l1 l2 s0
def fX9_same (o : Nat) (z : CS) (a1 : Int32) (a2 : Int32) : Option (Int32 × CS) :=
  (fX9_isPlace a2).bind fun q1 =>
  if q1 = 0 then
    fX9_same_J17 o z a1 a2 (-2 : Int32)
  else
    (fX9_findingOfTask o z a1).bind fun q2 =>
    fX9_same_J17 o q2.2 a1 a2 q2.1
set_option maxHeartbeats 4000000 in
set_option maxRecDepth 100000 in
theorem tX9_same_L75 {κ : KK} {p : Program} {l : Launch} {e : Env} {s : State} {m : MethodId} {args : Array Value} {below : List Frame} {meth : Method} {c : Code} (C : Cx κ p s m args meth c cX9_same 8 RX9 (some .int)) {o : Nat} {v : Option Value} {B' : Heap → Prop} {z : CS} {l4 : Nat} {l5 : Nat} {l6 : Int32} {l7 : Int32} {y : (Int32 × Int32) ⊕ Int32} (h : fX9_same_L75 o z l4 l5 l6 l7 = some y) (kc : ∀ u, y = .inl u → GC κ p l e s m args below meth c rmX9_same 8 o v B' 0 0 z 75 [(4, .ref l4), (5, .ref l5), (6, .int u.1), (7, .int u.2)] []) (kx : ∀ w, y = .inr w → GC κ p l e s m args below meth c rmX9_same 8 o v B' 0 0 z 114 [(6, .int w)] []) : GC κ p l e s m args below meth c rmX9_same 8 o v B' 0 0 z 75 [(4, .ref l4), (5, .ref l5), (6, .int l6), (7, .int l7)] [] := by
  have J106 : ∀ (l7 : Int32) (s0 : Int32), fX9_same_L75_J106 o z l4 l5 l7 s0 = some y → GC κ p l e s m args below meth c rmX9_same 8 o v B' 0 0 z 106 [(4, .ref l4), (5, .ref l5), (7, .int l7)] [.int s0] := by
    intro l7 s0 h
    unfold fX9_same_L75_J106 at h
    refine G_istore (pc' := 108) C dX9_same_106 [(6, .int s0), (4, .ref l4), (5, .ref l5), (7, .int l7)] (by decide) rfl rfl ?_
    refine G_iinc (pc' := 111) C dX9_same_108 3 rfl rfl [(7, .int (l7 + (1 : Int32))), (6, .int s0), (4, .ref l4), (5, .ref l5)] (by decide) rfl rfl ?_
    refine G_goto (tgt := 75) C dX9_same_111 (by decide) ?_
    exact G_sub (lv' := [(4, .ref l4), (5, .ref l5), (6, .int s0), (7, .int (l7 + (1 : Int32)))]) [2, 3, 1, 0] rfl (kc (s0, (l7 + (1 : Int32))) (Option.some.inj h).symm)
  unfold fX9_same_L75 at h
  refine G_iload (pc' := 77) C dX9_same_75 2 rfl rfl ?_
  refine G_if_eq (tgt := 114) (pc' := 80) C dX9_same_77 (by decide) rfl (fun hc => ?_) (fun hc => ?_)
  · replace h := z_ip hc h
    exact G_sub (lv' := [(6, .int l6)]) [2] rfl (kx _ (Option.some.inj h).symm)
  · replace h := z_in hc h
    refine G_iload (pc' := 82) C dX9_same_80 3 rfl rfl ?_
    refine G_aload (pc' := 84) C dX9_same_82 0 rfl rfl ?_
    replace h := ob h
    obtain ⟨v13, hv13, h⟩ := h
    refine P_lenB (pc' := 85) C dX9_same_84 hv13 rfl ?_
    refine G_icmp_ge (tgt := 114) (pc' := 88) C dX9_same_85 (by decide) rfl (fun hc => ?_) (fun hc => ?_)
    · replace h := z_ip hc h
      exact G_sub (lv' := [(6, .int l6)]) [2] rfl (kx _ (Option.some.inj h).symm)
    · replace h := z_in hc h
      refine G_aload (pc' := 90) C dX9_same_88 0 rfl rfl ?_
      refine G_iload (pc' := 92) C dX9_same_90 3 rfl rfl ?_
      replace h := ob h
      obtain ⟨v14, hv14, h⟩ := h
      refine P_bald (pc' := 93) C dX9_same_92 hv14 rfl ?_
      refine G_aload (pc' := 95) C dX9_same_93 1 rfl rfl ?_
      refine G_iload (pc' := 97) C dX9_same_95 3 rfl rfl ?_
      replace h := ob h
      obtain ⟨v15, hv15, h⟩ := h
      refine P_bald (pc' := 98) C dX9_same_97 hv15 rfl ?_
      refine G_icmp_ne (tgt := 105) (pc' := 101) C dX9_same_98 (by decide) rfl (fun hc => ?_) (fun hc => ?_)
      · replace h := z_in hc h
        refine G_iconst (pc' := 106) (v := (0 : Int32)) C dX9_same_105 (by decide) rfl ?_
        exact G_sub (lv' := [(4, .ref l4), (5, .ref l5), (7, .int l7)]) [0, 1, 3] rfl (J106 l7 (0 : Int32) h)
      · replace h := z_ip hc h
        refine G_iconst (pc' := 102) (v := (1 : Int32)) C dX9_same_101 (by decide) rfl ?_
        refine G_goto (tgt := 106) C dX9_same_102 (by decide) ?_
        exact G_sub (lv' := [(4, .ref l4), (5, .ref l5), (7, .int l7)]) [0, 1, 3] rfl (J106 l7 (1 : Int32) h)
set_option maxHeartbeats 4000000 in
set_option maxRecDepth 100000 in
theorem tX9_same (κ : KK) (l : Launch) (o : Nat) (z : CS) (a1 : Int32) (a2 : Int32) (q : Int32 × CS) (h : fX9_same o z a1 a2 = some q) : MM κ l yX9_same cX9_same 8 (some .int) rmX9_same (CA o) [.ref o, .int a1, .int a2] (CB κ o z) (some (Value.int q.1)) (CB κ o q.2) := by
  refine MM.of (by decide +kernel) (Nat.le_of_ble_eq_true rfl) ?_
  intro p e s m below meth c C hnm
  have J70 : ∀ (z : CS) (l4 : Nat) (l5 : Nat) (s0 : Int32), fX9_same_J70 o z l4 l5 s0 = some q → GC κ p l e s m ([.ref o, .int a1, .int a2] : List Value).toArray below meth c rmX9_same 8 o (some (Value.int q.1)) (CB κ o q.2) 0 0 z 70 [(4, .ref l4), (5, .ref l5)] [.int s0] := by
    intro z l4 l5 s0 h
    unfold fX9_same_J70 at h
    refine G_istore (pc' := 72) C dX9_same_70 [(6, .int s0), (4, .ref l4), (5, .ref l5)] (by decide) rfl rfl ?_
    refine G_iconst (pc' := 73) (v := (0 : Int32)) C dX9_same_72 (by decide) rfl ?_
    refine G_istore (pc' := 75) C dX9_same_73 [(7, .int (0 : Int32)), (6, .int s0), (4, .ref l4), (5, .ref l5)] (by decide) rfl rfl ?_
    replace h := ob h
    obtain ⟨e16, hle16, h⟩ := h
    refine G_sub (lv' := [(4, .ref l4), (5, .ref l5), (6, .int s0), (7, .int (0 : Int32))]) [2, 3, 1, 0] rfl ?_
    refine lpN_ind (body := fun u => fX9_same_L75 o z l4 l5 u.1 u.2) (P := fun u => GC κ p l e s m ([.ref o, .int a1, .int a2] : List Value).toArray below meth c rmX9_same 8 o (some (Value.int q.1)) (CB κ o q.2) 0 0 z 75 [(4, .ref l4), (5, .ref l5), (6, .int u.1), (7, .int u.2)] []) (X := fun w => GC κ p l e s m ([.ref o, .int a1, .int a2] : List Value).toArray below meth c rmX9_same 8 o (some (Value.int q.1)) (CB κ o q.2) 0 0 z 114 [(6, .int w)] []) (fun u y hb kc kx => tX9_same_L75 C hb kc kx) _ _ _ hle16 ?_
    refine G_iload (pc' := 116) C dX9_same_114 0 rfl rfl ?_
    refine G_if_eq (tgt := 123) (pc' := 119) C dX9_same_116 (by decide) rfl (fun hc => ?_) (fun hc => ?_)
    · replace h := z_ip hc h
      refine G_iconst (pc' := 124) (v := (0 : Int32)) C dX9_same_123 (by decide) rfl ?_
      refine G_widen (k := rmX9_same.cells) (n := rmX9_same.slots) (by decide) (by decide) ?_
      obtain rfl := Option.some.inj h
      exact G_iret C dX9_same_124 (fun _ h => h)
    · replace h := z_in hc h
      refine G_iconst (pc' := 120) (v := (1 : Int32)) C dX9_same_119 (by decide) rfl ?_
      refine G_goto (tgt := 124) C dX9_same_120 (by decide) ?_
      refine G_widen (k := rmX9_same.cells) (n := rmX9_same.slots) (by decide) (by decide) ?_
      obtain rfl := Option.some.inj h
      exact G_iret C dX9_same_124 (fun _ h => h)
  have J28 : ∀ (z : CS) (l1 : Int32) (l2 : Int32) (l3 : Int32), fX9_same_J28 o z l1 l2 l3 = some q → GC κ p l e s m ([.ref o, .int a1, .int a2] : List Value).toArray below meth c rmX9_same 8 o (some (Value.int q.1)) (CB κ o q.2) 0 0 z 28 [(0, .ref o), (1, .int l1), (2, .int l2), (3, .int l3)] [] := by
    intro z l1 l2 l3 h
    unfold fX9_same_J28 at h
    refine G_iload_n (pc' := 29) C dX9_same_28 3 rfl rfl ?_
    refine G_if_eq (tgt := 34) (pc' := 32) C dX9_same_29 (by decide) rfl (fun hc => ?_) (fun hc => ?_)
    · replace h := z_ip hc h
      refine G_aload_n (pc' := 35) C dX9_same_34 0 rfl rfl ?_
      refine G_get (pc' := 38) (k := 1) C fi_X9 dX9_same_35 tw_fl_X9_17 rfl (by decide) (CB_rd 0 rfl) rfl rfl ?_
      refine G_iload_n (pc' := 39) C dX9_same_38 1 rfl rfl ?_
      replace h := ob h
      obtain ⟨v3, hv3, h⟩ := h
      refine G_aald5V (pc' := 40) C dX9_same_39 (CB_rd 2 rfl) hv3 rfl ?_
      replace h := ob h
      obtain ⟨ad4, had4, h⟩ := h
      subst had4
      replace h := ob h
      obtain ⟨t5, ht5, h⟩ := h
      refine G_get (pc' := 43) (k := 3) C fi_X8 dX9_same_40 tw_fl_X9_155 rfl (by decide) (CB_T ht5) rfl rfl ?_
      refine G_qstore (pc' := 45) C dX9_same_43 [(4, va_rf t5.2.2.2), (0, .ref o), (1, .int l1), (2, .int l2), (3, .int l3)] (by decide) rfl rfl ?_
      refine G_aload_n (pc' := 46) C dX9_same_45 1 rfl rfl ?_
      refine G_get (pc' := 49) (k := 1) C fi_X9 dX9_same_46 tw_fl_X9_17 rfl (by decide) (CB_rd 0 rfl) rfl rfl ?_
      refine G_iload_n (pc' := 50) C dX9_same_49 3 rfl rfl ?_
      replace h := ob h
      obtain ⟨v6, hv6, h⟩ := h
      refine G_aald5V (pc' := 51) C dX9_same_50 (CB_rd 2 rfl) hv6 rfl ?_
      replace h := ob h
      obtain ⟨ad7, had7, h⟩ := h
      subst had7
      replace h := ob h
      obtain ⟨t8, ht8, h⟩ := h
      refine G_get (pc' := 54) (k := 3) C fi_X8 dX9_same_51 tw_fl_X9_155 rfl (by decide) (CB_T ht8) rfl rfl ?_
      refine G_qstore (pc' := 56) C dX9_same_54 [(5, va_rf t8.2.2.2), (4, va_rf t5.2.2.2), (0, .ref o), (1, .int l1), (2, .int l2), (3, .int l3)] (by decide) (by simp [List.filter, rf_cat]) rfl ?_
      refine G_qload (pc' := 58) C dX9_same_56 1 rfl rfl ?_
      replace h := ob h
      obtain ⟨ad9, had9, h⟩ := h
      rw [had9]
      replace h := ob h
      obtain ⟨v10, hv10, h⟩ := h
      refine P_lenB (pc' := 59) C dX9_same_58 hv10 rfl ?_
      refine G_qload (pc' := 61) C dX9_same_59 0 rfl rfl ?_
      replace h := ob h
      obtain ⟨ad11, had11, h⟩ := h
      rw [had11]
      replace h := ob h
      obtain ⟨v12, hv12, h⟩ := h
      refine P_lenB (pc' := 62) C dX9_same_61 hv12 rfl ?_
      refine G_icmp_ne (tgt := 69) (pc' := 65) C dX9_same_62 (by decide) rfl (fun hc => ?_) (fun hc => ?_)
      · replace h := z_in hc h
        refine G_iconst (pc' := 70) (v := (0 : Int32)) C dX9_same_69 (by decide) rfl ?_
        exact G_sub (lv' := [(4, .ref ad9), (5, .ref ad11)]) [1, 0] rfl (J70 z ad9 ad11 (0 : Int32) h)
      · replace h := z_ip hc h
        refine G_iconst (pc' := 66) (v := (1 : Int32)) C dX9_same_65 (by decide) rfl ?_
        refine G_goto (tgt := 70) C dX9_same_66 (by decide) ?_
        exact G_sub (lv' := [(4, .ref ad9), (5, .ref ad11)]) [1, 0] rfl (J70 z ad9 ad11 (1 : Int32) h)
    · replace h := z_in hc h
      refine G_iload_n (pc' := 33) C dX9_same_32 3 rfl rfl ?_
      refine G_widen (k := rmX9_same.cells) (n := rmX9_same.slots) (by decide) (by decide) ?_
      obtain rfl := Option.some.inj h
      exact G_iret C dX9_same_33 (fun _ h => h)
  have J17 : ∀ (z : CS) (l1 : Int32) (l2 : Int32) (s0 : Int32), fX9_same_J17 o z l1 l2 s0 = some q → GC κ p l e s m ([.ref o, .int a1, .int a2] : List Value).toArray below meth c rmX9_same 8 o (some (Value.int q.1)) (CB κ o q.2) 0 0 z 17 [(0, .ref o), (1, .int l1), (2, .int l2)] [.int s0] := by
    intro z l1 l2 s0 h
    unfold fX9_same_J17 at h
    refine G_istore_n (pc' := 18) C dX9_same_17 [(3, .int s0), (0, .ref o), (1, .int l1), (2, .int l2)] (by decide) rfl rfl ?_
    refine G_iload_n (pc' := 19) C dX9_same_18 0 rfl rfl ?_
    refine G_if_ne (tgt := 28) (pc' := 22) C dX9_same_19 (by decide) rfl (fun hc => ?_) (fun hc => ?_)
    · replace h := z_in hc h
      exact G_sub (lv' := [(0, .ref o), (1, .int l1), (2, .int l2), (3, .int s0)]) [1, 2, 3, 0] rfl (J28 z l1 l2 s0 h)
    · replace h := z_ip hc h
      refine G_aload_n (pc' := 23) C dX9_same_22 1 rfl rfl ?_
      refine G_iload_n (pc' := 24) C dX9_same_23 3 rfl rfl ?_
      replace h := ob h
      obtain ⟨q17, hq17, h⟩ := h
      refine G_cV0 (pc' := 27) C dX9_same_24 (tX9_findingOfTask κ l o z l2 q17 hq17) (wV tw_ml_X9_145 tw_im_X9_findingOfTask tw_se_X9_X9_findingOfTask tw_in_X9 tw_co_X9_findingOfTask) yd_X9_findingOfTask rfl fi_X9 (CB_rd 0 rfl) rfl rfl (by decide) rfl (Nat.le_of_ble_eq_true rfl) rfl rfl ?_
      refine G_istore_n (pc' := 28) C dX9_same_27 [(3, .int q17.1), (0, .ref o), (1, .int l1), (2, .int l2)] (by decide) rfl rfl ?_
      exact G_sub (lv' := [(0, .ref o), (1, .int l1), (2, .int l2), (3, .int q17.1)]) [1, 2, 3, 0] rfl (J28 q17.2 l1 l2 q17.1 h)
  unfold fX9_same at h
  refine G_sub (lv' := [(0, .ref o), (1, .int a1), (2, .int a2)]) [0, 1, 2] rfl ?_
  refine G_iload_n (pc' := 1) C dX9_same_0 2 rfl rfl ?_
  replace h := ob h
  obtain ⟨q1, hq1, h⟩ := h
  refine G_cS0 (pc' := 4) C dX9_same_1 (tX9_isPlace κ l (CA o) (CB κ o z) a2 q1 hq1) (wS tw_ml_X9_131 tw_st_X9_isPlace tw_co_X9_isPlace tw_in_X9) yd_X9_isPlace rfl rfl rfl (by decide) rfl (Nat.le_of_ble_eq_true rfl) rfl rfl ?_
  refine G_if_ne (tgt := 12) (pc' := 7) C dX9_same_4 (by decide) rfl (fun hc => ?_) (fun hc => ?_)
  · replace h := z_in hc h
    refine G_aload_n (pc' := 13) C dX9_same_12 0 rfl rfl ?_
    refine G_iload_n (pc' := 14) C dX9_same_13 1 rfl rfl ?_
    replace h := ob h
    obtain ⟨q2, hq2, h⟩ := h
    refine G_cV0 (pc' := 17) C dX9_same_14 (tX9_findingOfTask κ l o z a1 q2 hq2) (wV tw_ml_X9_145 tw_im_X9_findingOfTask tw_se_X9_X9_findingOfTask tw_in_X9 tw_co_X9_findingOfTask) yd_X9_findingOfTask rfl fi_X9 (CB_rd 0 rfl) rfl rfl (by decide) rfl (Nat.le_of_ble_eq_true rfl) rfl rfl ?_
    exact G_sub (lv' := [(0, .ref o), (1, .int a1), (2, .int a2)]) [0, 1, 2] rfl (J17 q2.2 a1 a2 q2.1 h)
  · replace h := z_ip hc h
    refine G_bipush (pc' := 9) (v := (-2 : Int32)) C dX9_same_7 (by decide) rfl ?_
    refine G_goto (tgt := 17) C dX9_same_9 (by decide) ?_
    exact G_sub (lv' := [(0, .ref o), (1, .int a1), (2, .int a2)]) [0, 1, 2] rfl (J17 z a1 a2 (-2 : Int32) h)
theorem dX1_powerOf_0 : decode cX1_powerOf 0 = .ok (.iconst 1, 1) := by decide +kernel
theorem dX1_powerOf_1 : decode cX1_powerOf 1 = .ok (.istore_n 1, 1) := by decide +kernel
theorem dX1_powerOf_2 : decode cX1_powerOf 2 = .ok (.iconst 0, 1) := by decide +kernel
theorem dX1_powerOf_3 : decode cX1_powerOf 3 = .ok (.istore_n 2, 1) := by decide +kernel
theorem dX1_powerOf_4 : decode cX1_powerOf 4 = .ok (.iload_n 2, 1) := by decide +kernel
theorem dX1_powerOf_5 : decode cX1_powerOf 5 = .ok (.iload_n 0, 1) := by decide +kernel
theorem dX1_powerOf_6 : decode cX1_powerOf 6 = .ok (.if_icmp .ge 13, 3) := by decide +kernel
theorem dX1_powerOf_9 : decode cX1_powerOf 9 = .ok (.iload_n 1, 1) := by decide +kernel
theorem dX1_powerOf_10 : decode cX1_powerOf 10 = .ok (.iconst 3, 1) := by decide +kernel
theorem dX1_powerOf_11 : decode cX1_powerOf 11 = .ok (.imul, 1) := by decide +kernel
theorem dX1_powerOf_12 : decode cX1_powerOf 12 = .ok (.istore_n 1, 1) := by decide +kernel
theorem dX1_powerOf_13 : decode cX1_powerOf 13 = .ok (.iinc 2 1, 3) := by decide +kernel
theorem dX1_powerOf_16 : decode cX1_powerOf 16 = .ok (.goto (-12), 3) := by decide +kernel
theorem dX1_powerOf_19 : decode cX1_powerOf 19 = .ok (.iload_n 1, 1) := by decide +kernel
theorem dX1_powerOf_20 : decode cX1_powerOf 20 = .ok (.ireturn, 1) := by decide +kernel
theorem yd_X1_powerOf : yX1_powerOf.cls ≠ "java/lang/invoke/MethodHandle" ∧ yX1_powerOf.cls ≠ "java/lang/invoke/VarHandle" ∧ (parseMethodDescriptor yX1_powerOf.desc).map (fun d => d.parameters.length) = some 1 := by decide +kernel
abbrev rmX1_powerOf : Room := { frames := 0, cells := 0, slots := 0, locals := 0 }
def fX1_powerOf_L4 (l0 : Int32) (l1 : Int32) (l2 : Int32) : Option ((Int32 × Int32) ⊕ Int32) :=
  if l0 ≤ l2 then
    some (.inr l1)
  else
    some (.inl ((l1 * (3 : Int32)), (l2 + (1 : Int32))))
def fX1_powerOf (a1 : Int32) : Option (Int32) :=
  (lpN (fun u => fX1_powerOf_L4 a1 u.1 u.2) bigN ((1 : Int32), (0 : Int32))).bind fun e1 =>
  some e1
set_option maxHeartbeats 4000000 in
set_option maxRecDepth 100000 in
theorem tX1_powerOf_L4 {κ : KK} {p : Program} {l : Launch} {e : Env} {s : State} {m : MethodId} {args : Array Value} {below : List Frame} {meth : Method} {c : Code} (C : Cx κ p s m args meth c cX1_powerOf 3 RX1 (some .int)) {A : Nat → Prop} {B : Heap → Prop} {v : Option Value} {B' : Heap → Prop} {l0 : Int32} {l1 : Int32} {l2 : Int32} {y : (Int32 × Int32) ⊕ Int32} (h : fX1_powerOf_L4 l0 l1 l2 = some y) (kc : ∀ u, y = .inl u → GT p l e s m args below meth c rmX1_powerOf 3 A v B' B 4 [(0, .int l0), (1, .int u.1), (2, .int u.2)] []) (kx : ∀ w, y = .inr w → GT p l e s m args below meth c rmX1_powerOf 3 A v B' B 19 [(1, .int w)] []) : GT p l e s m args below meth c rmX1_powerOf 3 A v B' B 4 [(0, .int l0), (1, .int l1), (2, .int l2)] [] := by
  unfold fX1_powerOf_L4 at h
  refine G_iload_n (pc' := 5) C dX1_powerOf_4 2 rfl rfl ?_
  refine G_iload_n (pc' := 6) C dX1_powerOf_5 0 rfl rfl ?_
  refine G_icmp_ge (tgt := 19) (pc' := 9) C dX1_powerOf_6 (by decide) rfl (fun hc => ?_) (fun hc => ?_)
  · replace h := z_ip hc h
    exact G_sub (lv' := [(1, .int l1)]) [1] rfl (kx _ (Option.some.inj h).symm)
  · replace h := z_in hc h
    refine G_iload_n (pc' := 10) C dX1_powerOf_9 1 rfl rfl ?_
    refine G_iconst (pc' := 11) (v := (3 : Int32)) C dX1_powerOf_10 (by decide) rfl ?_
    refine G_imul (pc' := 12) C dX1_powerOf_11 rfl ?_
    refine G_istore_n (pc' := 13) C dX1_powerOf_12 [(1, .int (l1 * (3 : Int32))), (0, .int l0), (2, .int l2)] (by decide) rfl rfl ?_
    refine G_iinc (pc' := 16) C dX1_powerOf_13 2 rfl rfl [(2, .int (l2 + (1 : Int32))), (1, .int (l1 * (3 : Int32))), (0, .int l0)] (by decide) rfl rfl ?_
    refine G_goto (tgt := 4) C dX1_powerOf_16 (by decide) ?_
    exact G_sub (lv' := [(0, .int l0), (1, .int (l1 * (3 : Int32))), (2, .int (l2 + (1 : Int32)))]) [2, 1, 0] rfl (kc ((l1 * (3 : Int32)), (l2 + (1 : Int32))) (Option.some.inj h).symm)
set_option maxHeartbeats 4000000 in
set_option maxRecDepth 100000 in
theorem tX1_powerOf (κ : KK) (l : Launch) (A : Nat → Prop) (B : Heap → Prop) (a1 : Int32) (q : Int32) (h : fX1_powerOf a1 = some q) : MM κ l yX1_powerOf cX1_powerOf 3 (some .int) rmX1_powerOf A [.int a1] B (some (Value.int q)) B := by
  refine MM.of (by decide +kernel) (Nat.le_of_ble_eq_true rfl) ?_
  intro p e s m below meth c C hnm
  unfold fX1_powerOf at h
  refine G_sub (lv' := [(0, .int a1)]) [0] rfl ?_
  refine G_iconst (pc' := 1) (v := (1 : Int32)) C dX1_powerOf_0 (by decide) rfl ?_
  refine G_istore_n (pc' := 2) C dX1_powerOf_1 [(1, .int (1 : Int32)), (0, .int a1)] (by decide) rfl rfl ?_
  refine G_iconst (pc' := 3) (v := (0 : Int32)) C dX1_powerOf_2 (by decide) rfl ?_
  refine G_istore_n (pc' := 4) C dX1_powerOf_3 [(2, .int (0 : Int32)), (1, .int (1 : Int32)), (0, .int a1)] (by decide) rfl rfl ?_
  replace h := ob h
  obtain ⟨e1, hle1, h⟩ := h
  refine G_sub (lv' := [(0, .int a1), (1, .int (1 : Int32)), (2, .int (0 : Int32))]) [2, 1, 0] rfl ?_
  refine lpN_ind (body := fun u => fX1_powerOf_L4 a1 u.1 u.2) (P := fun u => GT p l e s m ([.int a1] : List Value).toArray below meth c rmX1_powerOf 3 A (some (Value.int q)) B B 4 [(0, .int a1), (1, .int u.1), (2, .int u.2)] []) (X := fun w => GT p l e s m ([.int a1] : List Value).toArray below meth c rmX1_powerOf 3 A (some (Value.int q)) B B 19 [(1, .int w)] []) (fun u y hb kc kx => tX1_powerOf_L4 C hb kc kx) _ _ _ hle1 ?_
  refine G_iload_n (pc' := 20) C dX1_powerOf_19 0 rfl rfl ?_
  obtain rfl := Option.some.inj h
  exact G_iret C dX1_powerOf_20 (fun _ h => h)
theorem dX1_weightOfHalves_0 : decode cX1_weightOfHalves 0 = .ok (.aload_n 0, 1) := by decide +kernel
theorem dX1_weightOfHalves_1 : decode cX1_weightOfHalves 1 = .ok (.getfield 15, 3) := by decide +kernel
theorem dX1_weightOfHalves_4 : decode cX1_weightOfHalves 4 = .ok (.iload_n 1, 1) := by decide +kernel
theorem dX1_weightOfHalves_5 : decode cX1_weightOfHalves 5 = .ok (.iconst 2, 1) := by decide +kernel
theorem dX1_weightOfHalves_6 : decode cX1_weightOfHalves 6 = .ok (.iload_n 2, 1) := by decide +kernel
theorem dX1_weightOfHalves_7 : decode cX1_weightOfHalves 7 = .ok (.imul, 1) := by decide +kernel
theorem dX1_weightOfHalves_8 : decode cX1_weightOfHalves 8 = .ok (.isub, 1) := by decide +kernel
theorem dX1_weightOfHalves_9 : decode cX1_weightOfHalves 9 = .ok (.iaload, 1) := by decide +kernel
theorem dX1_weightOfHalves_10 : decode cX1_weightOfHalves 10 = .ok (.istore_n 3, 1) := by decide +kernel
theorem dX1_weightOfHalves_11 : decode cX1_weightOfHalves 11 = .ok (.aload_n 0, 1) := by decide +kernel
theorem dX1_weightOfHalves_12 : decode cX1_weightOfHalves 12 = .ok (.getfield 15, 3) := by decide +kernel
theorem dX1_weightOfHalves_15 : decode cX1_weightOfHalves 15 = .ok (.iload_n 1, 1) := by decide +kernel
theorem dX1_weightOfHalves_16 : decode cX1_weightOfHalves 16 = .ok (.iload_n 2, 1) := by decide +kernel
theorem dX1_weightOfHalves_17 : decode cX1_weightOfHalves 17 = .ok (.isub, 1) := by decide +kernel
theorem dX1_weightOfHalves_18 : decode cX1_weightOfHalves 18 = .ok (.iaload, 1) := by decide +kernel
theorem dX1_weightOfHalves_19 : decode cX1_weightOfHalves 19 = .ok (.istore 4, 2) := by decide +kernel
theorem dX1_weightOfHalves_21 : decode cX1_weightOfHalves 21 = .ok (.aload_n 0, 1) := by decide +kernel
theorem dX1_weightOfHalves_22 : decode cX1_weightOfHalves 22 = .ok (.getfield 23, 3) := by decide +kernel
theorem dX1_weightOfHalves_25 : decode cX1_weightOfHalves 25 = .ok (.ifCond .eq 10, 3) := by decide +kernel
theorem dX1_weightOfHalves_28 : decode cX1_weightOfHalves 28 = .ok (.iload_n 3, 1) := by decide +kernel
theorem dX1_weightOfHalves_29 : decode cX1_weightOfHalves 29 = .ok (.iload 4, 2) := by decide +kernel
theorem dX1_weightOfHalves_31 : decode cX1_weightOfHalves 31 = .ok (.iadd, 1) := by decide +kernel
theorem dX1_weightOfHalves_32 : decode cX1_weightOfHalves 32 = .ok (.goto 9, 3) := by decide +kernel
theorem dX1_weightOfHalves_35 : decode cX1_weightOfHalves 35 = .ok (.iload_n 3, 1) := by decide +kernel
theorem dX1_weightOfHalves_36 : decode cX1_weightOfHalves 36 = .ok (.iload 4, 2) := by decide +kernel
theorem dX1_weightOfHalves_38 : decode cX1_weightOfHalves 38 = .ok (.invokestatic 64, 3) := by decide +kernel
theorem dX1_weightOfHalves_41 : decode cX1_weightOfHalves 41 = .ok (.ireturn, 1) := by decide +kernel
theorem yd_X1_weightOfHalves : yX1_weightOfHalves.cls = RX1 ∧ yX1_weightOfHalves.cls ≠ "java/lang/invoke/MethodHandle" ∧ yX1_weightOfHalves.cls ≠ "java/lang/invoke/VarHandle" ∧ (parseMethodDescriptor yX1_weightOfHalves.desc).map (fun d => d.parameters.length) = some 2 := by decide +kernel
abbrev rmX1_weightOfHalves_5 : Room := { frames := 1, cells := 0, slots := 0, locals := 24 }
def fX1_weightOfHalves_5 (o : Nat) (z : CS) (a1 : Int32) (a2 : Int32) : Option (Int32) :=
  (aI 6561 (z.2.1 2) (a1 - ((2 : Int32) * a2))).bind fun v1 =>
  (aI 6561 (z.2.1 2) (a1 - a2)).bind fun v2 =>
  if (z.1 4) = 0 then
    some (if v1 < v2 then v2 else v1)
  else
    some (v1 + v2)
set_option maxHeartbeats 4000000 in
set_option maxRecDepth 100000 in
theorem tX1_weightOfHalves_5 (κ : KK) (l : Launch) (o : Nat) (z : CS) (a1 : Int32) (a2 : Int32) (q : Int32) (h : fX1_weightOfHalves_5 o z a1 a2 = some q) : MM κ l yX1_weightOfHalves cX1_weightOfHalves 5 (some .int) rmX1_weightOfHalves_5 (CA o) [.ref (o + 5), .int a1, .int a2] (CB κ o z) (some (Value.int q)) (CB κ o z) := by
  refine MM.of (by decide +kernel) (Nat.le_of_ble_eq_true rfl) ?_
  intro p e s m below meth c C hnm
  unfold fX1_weightOfHalves_5 at h
  refine G_sub (lv' := [(0, .ref (o + 5)), (1, .int a1), (2, .int a2)]) [0, 1, 2] rfl ?_
  refine G_aload_n (pc' := 1) C dX1_weightOfHalves_0 0 rfl rfl ?_
  refine G_get (pc' := 4) (k := 1) C fi_X1 dX1_weightOfHalves_1 tw_fl_X1_15 rfl (by decide) (CB_rd 5 rfl) rfl rfl ?_
  refine G_iload_n (pc' := 5) C dX1_weightOfHalves_4 1 rfl rfl ?_
  refine G_iconst (pc' := 6) (v := (2 : Int32)) C dX1_weightOfHalves_5 (by decide) rfl ?_
  refine G_iload_n (pc' := 7) C dX1_weightOfHalves_6 2 rfl rfl ?_
  refine G_imul (pc' := 8) C dX1_weightOfHalves_7 rfl ?_
  refine G_isub (pc' := 9) C dX1_weightOfHalves_8 rfl ?_
  replace h := ob h
  obtain ⟨v1, hv1, h⟩ := h
  refine G_ialdV (pc' := 10) C dX1_weightOfHalves_9 (CB_rd 7 rfl) hv1 rfl ?_
  refine G_istore_n (pc' := 11) C dX1_weightOfHalves_10 [(3, .int v1), (0, .ref (o + 5)), (1, .int a1), (2, .int a2)] (by decide) rfl rfl ?_
  refine G_aload_n (pc' := 12) C dX1_weightOfHalves_11 1 rfl rfl ?_
  refine G_get (pc' := 15) (k := 1) C fi_X1 dX1_weightOfHalves_12 tw_fl_X1_15 rfl (by decide) (CB_rd 5 rfl) rfl rfl ?_
  refine G_iload_n (pc' := 16) C dX1_weightOfHalves_15 2 rfl rfl ?_
  refine G_iload_n (pc' := 17) C dX1_weightOfHalves_16 3 rfl rfl ?_
  refine G_isub (pc' := 18) C dX1_weightOfHalves_17 rfl ?_
  replace h := ob h
  obtain ⟨v2, hv2, h⟩ := h
  refine G_ialdV (pc' := 19) C dX1_weightOfHalves_18 (CB_rd 7 rfl) hv2 rfl ?_
  refine G_istore (pc' := 21) C dX1_weightOfHalves_19 [(4, .int v2), (3, .int v1), (0, .ref (o + 5)), (1, .int a1), (2, .int a2)] (by decide) rfl rfl ?_
  refine G_aload_n (pc' := 22) C dX1_weightOfHalves_21 2 rfl rfl ?_
  refine G_get (pc' := 25) (k := 3) C fi_X1 dX1_weightOfHalves_22 tw_fl_X1_23 rfl (by decide) (CB_rd 5 rfl) rfl rfl ?_
  refine G_if_eq (tgt := 35) (pc' := 28) C dX1_weightOfHalves_25 (by decide) rfl (fun hc => ?_) (fun hc => ?_)
  · replace h := z_ip hc h
    refine G_iload_n (pc' := 36) C dX1_weightOfHalves_35 1 rfl rfl ?_
    refine G_iload (pc' := 38) C dX1_weightOfHalves_36 0 rfl rfl ?_
    refine G_mmax (pc' := 41) C dX1_weightOfHalves_38 tw_ml_X1_64 (by decide) rfl ?_
    obtain rfl := Option.some.inj h
    exact G_iret C dX1_weightOfHalves_41 (fun _ h => h)
  · replace h := z_in hc h
    refine G_iload_n (pc' := 29) C dX1_weightOfHalves_28 1 rfl rfl ?_
    refine G_iload (pc' := 31) C dX1_weightOfHalves_29 0 rfl rfl ?_
    refine G_iadd (pc' := 32) C dX1_weightOfHalves_31 rfl ?_
    refine G_goto (tgt := 41) C dX1_weightOfHalves_32 (by decide) ?_
    obtain rfl := Option.some.inj h
    exact G_iret C dX1_weightOfHalves_41 (fun _ h => h)
theorem dX1_isSettled_0 : decode cX1_isSettled 0 = .ok (.aload_n 0, 1) := by decide +kernel
theorem dX1_isSettled_1 : decode cX1_isSettled 1 = .ok (.getfield 9, 3) := by decide +kernel
theorem dX1_isSettled_4 : decode cX1_isSettled 4 = .ok (.iload_n 1, 1) := by decide +kernel
theorem dX1_isSettled_5 : decode cX1_isSettled 5 = .ok (.baload, 1) := by decide +kernel
theorem dX1_isSettled_6 : decode cX1_isSettled 6 = .ok (.iconst 3, 1) := by decide +kernel
theorem dX1_isSettled_7 : decode cX1_isSettled 7 = .ok (.if_icmp .eq 7, 3) := by decide +kernel
theorem dX1_isSettled_10 : decode cX1_isSettled 10 = .ok (.iconst 1, 1) := by decide +kernel
theorem dX1_isSettled_11 : decode cX1_isSettled 11 = .ok (.goto 4, 3) := by decide +kernel
theorem dX1_isSettled_14 : decode cX1_isSettled 14 = .ok (.iconst 0, 1) := by decide +kernel
theorem dX1_isSettled_15 : decode cX1_isSettled 15 = .ok (.ireturn, 1) := by decide +kernel
theorem yd_X1_isSettled : yX1_isSettled.cls = RX1 ∧ yX1_isSettled.cls ≠ "java/lang/invoke/MethodHandle" ∧ yX1_isSettled.cls ≠ "java/lang/invoke/VarHandle" ∧ (parseMethodDescriptor yX1_isSettled.desc).map (fun d => d.parameters.length) = some 1 := by decide +kernel
abbrev rmX1_isSettled_5 : Room := { frames := 0, cells := 0, slots := 0, locals := 0 }
def fX1_isSettled_5 (o : Nat) (z : CS) (a1 : Int32) : Option (Int32) :=
  (aI 6561 (z.2.1 1) a1).bind fun v1 =>
  if v1 = (3 : Int32) then
    some (0 : Int32)
  else
    some (1 : Int32)
set_option maxHeartbeats 4000000 in
set_option maxRecDepth 100000 in
theorem tX1_isSettled_5 (κ : KK) (l : Launch) (o : Nat) (z : CS) (a1 : Int32) (q : Int32) (h : fX1_isSettled_5 o z a1 = some q) : MM κ l yX1_isSettled cX1_isSettled 2 (some .boolean) rmX1_isSettled_5 (CA o) [.ref (o + 5), .int a1] (CB κ o z) (some (Value.int q)) (CB κ o z) := by
  refine MM.of (by decide +kernel) (Nat.le_of_ble_eq_true rfl) ?_
  intro p e s m below meth c C hnm
  unfold fX1_isSettled_5 at h
  refine G_sub (lv' := [(0, .ref (o + 5)), (1, .int a1)]) [0, 1] rfl ?_
  refine G_aload_n (pc' := 1) C dX1_isSettled_0 0 rfl rfl ?_
  refine G_get (pc' := 4) (k := 0) C fi_X1 dX1_isSettled_1 tw_fl_X1_9 rfl (by decide) (CB_rd 5 rfl) rfl rfl ?_
  refine G_iload_n (pc' := 5) C dX1_isSettled_4 1 rfl rfl ?_
  replace h := ob h
  obtain ⟨v1, hv1, h⟩ := h
  refine G_baldV (pc' := 6) C dX1_isSettled_5 (CB_rd 6 rfl) hv1 rfl ?_
  refine G_iconst (pc' := 7) (v := (3 : Int32)) C dX1_isSettled_6 (by decide) rfl ?_
  refine G_icmp_eq (tgt := 14) (pc' := 10) C dX1_isSettled_7 (by decide) rfl (fun hc => ?_) (fun hc => ?_)
  · replace h := z_ip hc h
    refine G_iconst (pc' := 15) (v := (0 : Int32)) C dX1_isSettled_14 (by decide) rfl ?_
    obtain rfl := Option.some.inj h
    exact G_zret (v := (0 : Int32)) C rfl dX1_isSettled_15 (fun _ h => h)
  · replace h := z_in hc h
    refine G_iconst (pc' := 11) (v := (1 : Int32)) C dX1_isSettled_10 (by decide) rfl ?_
    refine G_goto (tgt := 15) C dX1_isSettled_11 (by decide) ?_
    obtain rfl := Option.some.inj h
    exact G_zret (v := (1 : Int32)) C rfl dX1_isSettled_15 (fun _ h => h)
theorem dX1_ownWeight_0 : decode cX1_ownWeight 0 = .ok (.aload_n 0, 1) := by decide +kernel
theorem dX1_ownWeight_1 : decode cX1_ownWeight 1 = .ok (.getfield 23, 3) := by decide +kernel
theorem dX1_ownWeight_4 : decode cX1_ownWeight 4 = .ok (.ifCond .eq 9, 3) := by decide +kernel
theorem dX1_ownWeight_7 : decode cX1_ownWeight 7 = .ok (.iconst 1, 1) := by decide +kernel
theorem dX1_ownWeight_8 : decode cX1_ownWeight 8 = .ok (.iload_n 1, 1) := by decide +kernel
theorem dX1_ownWeight_9 : decode cX1_ownWeight 9 = .ok (.ishl, 1) := by decide +kernel
theorem dX1_ownWeight_10 : decode cX1_ownWeight 10 = .ok (.goto 4, 3) := by decide +kernel
theorem dX1_ownWeight_13 : decode cX1_ownWeight 13 = .ok (.iconst 1, 1) := by decide +kernel
theorem dX1_ownWeight_14 : decode cX1_ownWeight 14 = .ok (.ireturn, 1) := by decide +kernel
theorem yd_X1_ownWeight : yX1_ownWeight.cls = RX1 ∧ yX1_ownWeight.cls ≠ "java/lang/invoke/MethodHandle" ∧ yX1_ownWeight.cls ≠ "java/lang/invoke/VarHandle" ∧ (parseMethodDescriptor yX1_ownWeight.desc).map (fun d => d.parameters.length) = some 1 := by decide +kernel
abbrev rmX1_ownWeight_5 : Room := { frames := 0, cells := 0, slots := 0, locals := 0 }
def fX1_ownWeight_5 (o : Nat) (z : CS) (a1 : Int32) : Option (Int32) :=
  if (z.1 4) = 0 then
    some (1 : Int32)
  else
    some ((1 : Int32) <<< (a1 &&& 31))
set_option maxHeartbeats 4000000 in
set_option maxRecDepth 100000 in
theorem tX1_ownWeight_5 (κ : KK) (l : Launch) (o : Nat) (z : CS) (a1 : Int32) (q : Int32) (h : fX1_ownWeight_5 o z a1 = some q) : MM κ l yX1_ownWeight cX1_ownWeight 2 (some .int) rmX1_ownWeight_5 (CA o) [.ref (o + 5), .int a1] (CB κ o z) (some (Value.int q)) (CB κ o z) := by
  refine MM.of (by decide +kernel) (Nat.le_of_ble_eq_true rfl) ?_
  intro p e s m below meth c C hnm
  unfold fX1_ownWeight_5 at h
  refine G_sub (lv' := [(0, .ref (o + 5)), (1, .int a1)]) [0, 1] rfl ?_
  refine G_aload_n (pc' := 1) C dX1_ownWeight_0 0 rfl rfl ?_
  refine G_get (pc' := 4) (k := 3) C fi_X1 dX1_ownWeight_1 tw_fl_X1_23 rfl (by decide) (CB_rd 5 rfl) rfl rfl ?_
  refine G_if_eq (tgt := 13) (pc' := 7) C dX1_ownWeight_4 (by decide) rfl (fun hc => ?_) (fun hc => ?_)
  · replace h := z_ip hc h
    refine G_iconst (pc' := 14) (v := (1 : Int32)) C dX1_ownWeight_13 (by decide) rfl ?_
    obtain rfl := Option.some.inj h
    exact G_iret C dX1_ownWeight_14 (fun _ h => h)
  · replace h := z_in hc h
    refine G_iconst (pc' := 8) (v := (1 : Int32)) C dX1_ownWeight_7 (by decide) rfl ?_
    refine G_iload_n (pc' := 9) C dX1_ownWeight_8 1 rfl rfl ?_
    refine G_ishl (pc' := 10) C dX1_ownWeight_9 rfl ?_
    refine G_goto (tgt := 14) C dX1_ownWeight_10 (by decide) ?_
    obtain rfl := Option.some.inj h
    exact G_iret C dX1_ownWeight_14 (fun _ h => h)
theorem dX1_weighOne_0 : decode cX1_weighOne 0 = .ok (.iload_n 1, 1) := by decide +kernel
theorem dX1_weighOne_1 : decode cX1_weighOne 1 = .ok (.istore_n 2, 1) := by decide +kernel
theorem dX1_weighOne_2 : decode cX1_weighOne 2 = .ok (.iconst 1, 1) := by decide +kernel
theorem dX1_weighOne_3 : decode cX1_weighOne 3 = .ok (.istore_n 3, 1) := by decide +kernel
theorem dX1_weighOne_4 : decode cX1_weighOne 4 = .ok (.iconst 0, 1) := by decide +kernel
theorem dX1_weighOne_5 : decode cX1_weighOne 5 = .ok (.istore 4, 2) := by decide +kernel
theorem dX1_weighOne_7 : decode cX1_weighOne 7 = .ok (.iconst 0, 1) := by decide +kernel
theorem dX1_weighOne_8 : decode cX1_weighOne 8 = .ok (.istore 5, 2) := by decide +kernel
theorem dX1_weighOne_10 : decode cX1_weighOne 10 = .ok (.ldc 44, 2) := by decide +kernel
theorem dX1_weighOne_12 : decode cX1_weighOne 12 = .ok (.istore 6, 2) := by decide +kernel
theorem dX1_weighOne_14 : decode cX1_weighOne 14 = .ok (.iconst 0, 1) := by decide +kernel
theorem dX1_weighOne_15 : decode cX1_weighOne 15 = .ok (.istore 7, 2) := by decide +kernel
theorem dX1_weighOne_17 : decode cX1_weighOne 17 = .ok (.iload 7, 2) := by decide +kernel
theorem dX1_weighOne_19 : decode cX1_weighOne 19 = .ok (.aload_n 0, 1) := by decide +kernel
theorem dX1_weighOne_20 : decode cX1_weighOne 20 = .ok (.getfield 19, 3) := by decide +kernel
theorem dX1_weighOne_23 : decode cX1_weighOne 23 = .ok (.getfield 27, 3) := by decide +kernel
theorem dX1_weighOne_26 : decode cX1_weighOne 26 = .ok (.if_icmp .ge 83, 3) := by decide +kernel
theorem dX1_weighOne_29 : decode cX1_weighOne 29 = .ok (.iload_n 2, 1) := by decide +kernel
theorem dX1_weighOne_30 : decode cX1_weighOne 30 = .ok (.iconst 3, 1) := by decide +kernel
theorem dX1_weighOne_31 : decode cX1_weighOne 31 = .ok (.irem, 1) := by decide +kernel
theorem dX1_weighOne_32 : decode cX1_weighOne 32 = .ok (.istore 8, 2) := by decide +kernel
theorem dX1_weighOne_34 : decode cX1_weighOne 34 = .ok (.iload 8, 2) := by decide +kernel
theorem dX1_weighOne_36 : decode cX1_weighOne 36 = .ok (.iconst 2, 1) := by decide +kernel
theorem dX1_weighOne_37 : decode cX1_weighOne 37 = .ok (.if_icmp .ne 48, 3) := by decide +kernel
theorem dX1_weighOne_40 : decode cX1_weighOne 40 = .ok (.iinc 4 1, 3) := by decide +kernel
theorem dX1_weighOne_43 : decode cX1_weighOne 43 = .ok (.aload_n 0, 1) := by decide +kernel
theorem dX1_weighOne_44 : decode cX1_weighOne 44 = .ok (.getfield 9, 3) := by decide +kernel
theorem dX1_weighOne_47 : decode cX1_weighOne 47 = .ok (.iload_n 1, 1) := by decide +kernel
theorem dX1_weighOne_48 : decode cX1_weighOne 48 = .ok (.aload_n 0, 1) := by decide +kernel
theorem dX1_weighOne_49 : decode cX1_weighOne 49 = .ok (.getfield 9, 3) := by decide +kernel
theorem dX1_weighOne_52 : decode cX1_weighOne 52 = .ok (.iload_n 1, 1) := by decide +kernel
theorem dX1_weighOne_53 : decode cX1_weighOne 53 = .ok (.iload_n 3, 1) := by decide +kernel
theorem dX1_weighOne_54 : decode cX1_weighOne 54 = .ok (.isub, 1) := by decide +kernel
theorem dX1_weighOne_55 : decode cX1_weighOne 55 = .ok (.baload, 1) := by decide +kernel
theorem dX1_weighOne_56 : decode cX1_weighOne 56 = .ok (.aload_n 0, 1) := by decide +kernel
theorem dX1_weighOne_57 : decode cX1_weighOne 57 = .ok (.getfield 9, 3) := by decide +kernel
theorem dX1_weighOne_60 : decode cX1_weighOne 60 = .ok (.iload_n 1, 1) := by decide +kernel
theorem dX1_weighOne_61 : decode cX1_weighOne 61 = .ok (.iconst 2, 1) := by decide +kernel
theorem dX1_weighOne_62 : decode cX1_weighOne 62 = .ok (.iload_n 3, 1) := by decide +kernel
theorem dX1_weighOne_63 : decode cX1_weighOne 63 = .ok (.imul, 1) := by decide +kernel
theorem dX1_weighOne_64 : decode cX1_weighOne 64 = .ok (.isub, 1) := by decide +kernel
theorem dX1_weighOne_65 : decode cX1_weighOne 65 = .ok (.baload, 1) := by decide +kernel
theorem dX1_weighOne_66 : decode cX1_weighOne 66 = .ok (.ior, 1) := by decide +kernel
theorem dX1_weighOne_67 : decode cX1_weighOne 67 = .ok (.i2b, 1) := by decide +kernel
theorem dX1_weighOne_68 : decode cX1_weighOne 68 = .ok (.bastore, 1) := by decide +kernel
theorem dX1_weighOne_69 : decode cX1_weighOne 69 = .ok (.iload 6, 2) := by decide +kernel
theorem dX1_weighOne_71 : decode cX1_weighOne 71 = .ok (.aload_n 0, 1) := by decide +kernel
theorem dX1_weighOne_72 : decode cX1_weighOne 72 = .ok (.iload_n 1, 1) := by decide +kernel
theorem dX1_weighOne_73 : decode cX1_weighOne 73 = .ok (.iload_n 3, 1) := by decide +kernel
theorem dX1_weighOne_74 : decode cX1_weighOne 74 = .ok (.invokevirtual 45, 3) := by decide +kernel
theorem dX1_weighOne_77 : decode cX1_weighOne 77 = .ok (.invokestatic 49, 3) := by decide +kernel
theorem dX1_weighOne_80 : decode cX1_weighOne 80 = .ok (.istore 6, 2) := by decide +kernel
theorem dX1_weighOne_82 : decode cX1_weighOne 82 = .ok (.goto 13, 3) := by decide +kernel
theorem dX1_weighOne_85 : decode cX1_weighOne 85 = .ok (.iload 5, 2) := by decide +kernel
theorem dX1_weighOne_87 : decode cX1_weighOne 87 = .ok (.iload 8, 2) := by decide +kernel
theorem dX1_weighOne_89 : decode cX1_weighOne 89 = .ok (.iload 7, 2) := by decide +kernel
theorem dX1_weighOne_91 : decode cX1_weighOne 91 = .ok (.ishl, 1) := by decide +kernel
theorem dX1_weighOne_92 : decode cX1_weighOne 92 = .ok (.ior, 1) := by decide +kernel
theorem dX1_weighOne_93 : decode cX1_weighOne 93 = .ok (.istore 5, 2) := by decide +kernel
theorem dX1_weighOne_95 : decode cX1_weighOne 95 = .ok (.iload_n 2, 1) := by decide +kernel
theorem dX1_weighOne_96 : decode cX1_weighOne 96 = .ok (.iconst 3, 1) := by decide +kernel
theorem dX1_weighOne_97 : decode cX1_weighOne 97 = .ok (.idiv, 1) := by decide +kernel
theorem dX1_weighOne_98 : decode cX1_weighOne 98 = .ok (.istore_n 2, 1) := by decide +kernel
theorem dX1_weighOne_99 : decode cX1_weighOne 99 = .ok (.iload_n 3, 1) := by decide +kernel
theorem dX1_weighOne_100 : decode cX1_weighOne 100 = .ok (.iconst 3, 1) := by decide +kernel
theorem dX1_weighOne_101 : decode cX1_weighOne 101 = .ok (.imul, 1) := by decide +kernel
theorem dX1_weighOne_102 : decode cX1_weighOne 102 = .ok (.istore_n 3, 1) := by decide +kernel
theorem dX1_weighOne_103 : decode cX1_weighOne 103 = .ok (.iinc 7 1, 3) := by decide +kernel
theorem dX1_weighOne_106 : decode cX1_weighOne 106 = .ok (.goto (-89), 3) := by decide +kernel
theorem dX1_weighOne_109 : decode cX1_weighOne 109 = .ok (.iload 4, 2) := by decide +kernel
theorem dX1_weighOne_111 : decode cX1_weighOne 111 = .ok (.ifCond .ne 42, 3) := by decide +kernel
theorem dX1_weighOne_114 : decode cX1_weighOne 114 = .ok (.aload_n 0, 1) := by decide +kernel
theorem dX1_weighOne_115 : decode cX1_weighOne 115 = .ok (.getfield 19, 3) := by decide +kernel
theorem dX1_weighOne_118 : decode cX1_weighOne 118 = .ok (.getfield 54, 3) := by decide +kernel
theorem dX1_weighOne_121 : decode cX1_weighOne 121 = .ok (.iload 5, 2) := by decide +kernel
theorem dX1_weighOne_123 : decode cX1_weighOne 123 = .ok (.baload, 1) := by decide +kernel
theorem dX1_weighOne_124 : decode cX1_weighOne 124 = .ok (.istore 7, 2) := by decide +kernel
theorem dX1_weighOne_126 : decode cX1_weighOne 126 = .ok (.aload_n 0, 1) := by decide +kernel
theorem dX1_weighOne_127 : decode cX1_weighOne 127 = .ok (.getfield 9, 3) := by decide +kernel
theorem dX1_weighOne_130 : decode cX1_weighOne 130 = .ok (.iload_n 1, 1) := by decide +kernel
theorem dX1_weighOne_131 : decode cX1_weighOne 131 = .ok (.iload 7, 2) := by decide +kernel
theorem dX1_weighOne_133 : decode cX1_weighOne 133 = .ok (.ifCond .ne 7, 3) := by decide +kernel
theorem dX1_weighOne_136 : decode cX1_weighOne 136 = .ok (.iconst 1, 1) := by decide +kernel
theorem dX1_weighOne_137 : decode cX1_weighOne 137 = .ok (.goto 14, 3) := by decide +kernel
theorem dX1_weighOne_140 : decode cX1_weighOne 140 = .ok (.iload 7, 2) := by decide +kernel
theorem dX1_weighOne_142 : decode cX1_weighOne 142 = .ok (.iconst 1, 1) := by decide +kernel
theorem dX1_weighOne_143 : decode cX1_weighOne 143 = .ok (.if_icmp .ne 7, 3) := by decide +kernel
theorem dX1_weighOne_146 : decode cX1_weighOne 146 = .ok (.iconst 2, 1) := by decide +kernel
theorem dX1_weighOne_147 : decode cX1_weighOne 147 = .ok (.goto 4, 3) := by decide +kernel
theorem dX1_weighOne_150 : decode cX1_weighOne 150 = .ok (.iconst 0, 1) := by decide +kernel
theorem dX1_weighOne_151 : decode cX1_weighOne 151 = .ok (.i2b, 1) := by decide +kernel
theorem dX1_weighOne_152 : decode cX1_weighOne 152 = .ok (.bastore, 1) := by decide +kernel
theorem dX1_weighOne_153 : decode cX1_weighOne 153 = .ok (.aload_n 0, 1) := by decide +kernel
theorem dX1_weighOne_154 : decode cX1_weighOne 154 = .ok (.getfield 15, 3) := by decide +kernel
theorem dX1_weighOne_157 : decode cX1_weighOne 157 = .ok (.iload_n 1, 1) := by decide +kernel
theorem dX1_weighOne_158 : decode cX1_weighOne 158 = .ok (.aload_n 0, 1) := by decide +kernel
theorem dX1_weighOne_159 : decode cX1_weighOne 159 = .ok (.iload_n 1, 1) := by decide +kernel
theorem dX1_weighOne_160 : decode cX1_weighOne 160 = .ok (.invokevirtual 57, 3) := by decide +kernel
theorem dX1_weighOne_163 : decode cX1_weighOne 163 = .ok (.ifCond .eq 7, 3) := by decide +kernel
theorem dX1_weighOne_166 : decode cX1_weighOne 166 = .ok (.iconst 0, 1) := by decide +kernel
theorem dX1_weighOne_167 : decode cX1_weighOne 167 = .ok (.goto 12, 3) := by decide +kernel
theorem dX1_weighOne_170 : decode cX1_weighOne 170 = .ok (.iload 6, 2) := by decide +kernel
theorem dX1_weighOne_172 : decode cX1_weighOne 172 = .ok (.aload_n 0, 1) := by decide +kernel
theorem dX1_weighOne_173 : decode cX1_weighOne 173 = .ok (.iload 4, 2) := by decide +kernel
theorem dX1_weighOne_175 : decode cX1_weighOne 175 = .ok (.invokevirtual 61, 3) := by decide +kernel
theorem dX1_weighOne_178 : decode cX1_weighOne 178 = .ok (.iadd, 1) := by decide +kernel
theorem dX1_weighOne_179 : decode cX1_weighOne 179 = .ok (.iastore, 1) := by decide +kernel
theorem dX1_weighOne_180 : decode cX1_weighOne 180 = .ok (.return_, 1) := by decide +kernel
theorem yd_X1_weighOne : yX1_weighOne.cls = RX1 ∧ yX1_weighOne.cls ≠ "java/lang/invoke/MethodHandle" ∧ yX1_weighOne.cls ≠ "java/lang/invoke/VarHandle" ∧ (parseMethodDescriptor yX1_weighOne.desc).map (fun d => d.parameters.length) = some 1 := by decide +kernel
abbrev rmX1_weighOne_5 : Room := { frames := 2, cells := 0, slots := 0, locals := 48 }
def fX1_weighOne_5_L17_J95 (o : Nat) (z : CS) (l1 : Int32) (l2 : Int32) (l3 : Int32) (l4 : Int32) (l5 : Int32) (l6 : Int32) (l7 : Int32) : Option ((Int32 × Int32 × Int32 × Int32 × Int32 × Int32 × CS) ⊕ (Int32 × Int32 × Int32 × CS)) :=
  some (.inl ((l2 / (3 : Int32)), (l3 * (3 : Int32)), l4, l5, l6, (l7 + (1 : Int32)), z))
def fX1_weighOne_5_L17 (o : Nat) (z : CS) (l1 : Int32) (l2 : Int32) (l3 : Int32) (l4 : Int32) (l5 : Int32) (l6 : Int32) (l7 : Int32) : Option ((Int32 × Int32 × Int32 × Int32 × Int32 × Int32 × CS) ⊕ (Int32 × Int32 × Int32 × CS)) :=
  ((z.2.2.2.1 0)).bind fun ad1 =>
  (dT z ad1).bind fun t2 =>
  if t2.2.1 ≤ l7 then
    some (.inr (l4, l5, l6, z))
  else
    if (l2 - l2 / (3 : Int32) * (3 : Int32)) = (2 : Int32) then
      (aI 6561 (z.2.1 1) (l1 - l3)).bind fun v3 =>
      (aI 6561 (z.2.1 1) (l1 - ((2 : Int32) * l3))).bind fun v4 =>
      (csA z 1 6561 l1 (Int8.toInt32 (Int32.toInt8 (Int8.toInt32 (Int32.toInt8 (v3 ||| v4)))))).bind fun z5 =>
      (fX1_weightOfHalves_5 o z5 l1 l3).bind fun q6 =>
      fX1_weighOne_5_L17_J95 o z5 l1 l2 l3 (l4 + (1 : Int32)) l5 (if q6 < l6 then q6 else l6) l7
    else
      fX1_weighOne_5_L17_J95 o z l1 l2 l3 l4 (l5 ||| ((l2 - l2 / (3 : Int32) * (3 : Int32)) <<< (l7 &&& 31))) l6 l7
def fX1_weighOne_5_J179 (o : Nat) (z : CS) (s0 : Int32) (s1 : Int32) : Option (CS) :=
  (csA z 2 6561 s1 s0).bind fun z10 =>
  some z10
def fX1_weighOne_5_J153 (o : Nat) (z : CS) (l1 : Int32) (l4 : Int32) (l6 : Int32) : Option (CS) :=
  (fX1_isSettled_5 o z l1).bind fun q8 =>
  if q8 = 0 then
    (fX1_ownWeight_5 o z l4).bind fun q9 =>
    fX1_weighOne_5_J179 o z (l6 + q9) l1
  else
    fX1_weighOne_5_J179 o z (0 : Int32) l1
def fX1_weighOne_5_J151 (o : Nat) (z : CS) (l1 : Int32) (l4 : Int32) (l6 : Int32) (s0 : Int32) (s1 : Int32) : Option (CS) :=
  (csA z 1 6561 s1 (Int8.toInt32 (Int32.toInt8 (Int8.toInt32 (Int32.toInt8 s0))))).bind fun z15 =>
  fX1_weighOne_5_J153 o z15 l1 l4 l6
def fX1_weighOne_5 (o : Nat) (z : CS) (a1 : Int32) : Option (CS) :=
  (lpN (fun u => fX1_weighOne_5_L17 o u.2.2.2.2.2.2 a1 u.1 u.2.1 u.2.2.1 u.2.2.2.1 u.2.2.2.2.1 u.2.2.2.2.2.1) bigN (a1, (1 : Int32), (0 : Int32), (0 : Int32), (1000000 : Int32), (0 : Int32), z)).bind fun e7 =>
  if e7.1 = 0 then
    ((e7.2.2.2.2.2.2.1 0)).bind fun ad11 =>
    (dT e7.2.2.2 ad11).bind fun t12 =>
    (t12.2.2.2).bind fun ad13 =>
    (rdB e7.2.2.2 ad13 e7.2.1).bind fun v14 =>
    if v14 = 0 then
      fX1_weighOne_5_J151 o e7.2.2.2 a1 e7.1 e7.2.2.1 (1 : Int32) a1
    else
      if v14 = (1 : Int32) then
        fX1_weighOne_5_J151 o e7.2.2.2 a1 e7.1 e7.2.2.1 (2 : Int32) a1
      else
        fX1_weighOne_5_J151 o e7.2.2.2 a1 e7.1 e7.2.2.1 (0 : Int32) a1
  else
    fX1_weighOne_5_J153 o e7.2.2.2 a1 e7.1 e7.2.2.1
set_option maxHeartbeats 4000000 in
set_option maxRecDepth 100000 in
theorem tX1_weighOne_5_L17 {κ : KK} {p : Program} {l : Launch} {e : Env} {s : State} {m : MethodId} {args : Array Value} {below : List Frame} {meth : Method} {c : Code} (C : Cx κ p s m args meth c cX1_weighOne 9 RX1 none) {o : Nat} {v : Option Value} {B' : Heap → Prop} {z : CS} {l1 : Int32} {l2 : Int32} {l3 : Int32} {l4 : Int32} {l5 : Int32} {l6 : Int32} {l7 : Int32} {y : (Int32 × Int32 × Int32 × Int32 × Int32 × Int32 × CS) ⊕ (Int32 × Int32 × Int32 × CS)} (h : fX1_weighOne_5_L17 o z l1 l2 l3 l4 l5 l6 l7 = some y) (kc : ∀ u, y = .inl u → GC κ p l e s m args below meth c rmX1_weighOne_5 9 o v B' 0 0 u.2.2.2.2.2.2 17 [(0, .ref (o + 5)), (1, .int l1), (2, .int u.1), (3, .int u.2.1), (4, .int u.2.2.1), (5, .int u.2.2.2.1), (6, .int u.2.2.2.2.1), (7, .int u.2.2.2.2.2.1)] []) (kx : ∀ w, y = .inr w → GC κ p l e s m args below meth c rmX1_weighOne_5 9 o v B' 0 0 w.2.2.2 109 [(0, .ref (o + 5)), (1, .int l1), (4, .int w.1), (5, .int w.2.1), (6, .int w.2.2.1)] []) : GC κ p l e s m args below meth c rmX1_weighOne_5 9 o v B' 0 0 z 17 [(0, .ref (o + 5)), (1, .int l1), (2, .int l2), (3, .int l3), (4, .int l4), (5, .int l5), (6, .int l6), (7, .int l7)] [] := by
  have J95 : ∀ (z : CS) (l2 : Int32) (l3 : Int32) (l4 : Int32) (l5 : Int32) (l6 : Int32) (l7 : Int32), fX1_weighOne_5_L17_J95 o z l1 l2 l3 l4 l5 l6 l7 = some y → GC κ p l e s m args below meth c rmX1_weighOne_5 9 o v B' 0 0 z 95 [(0, .ref (o + 5)), (1, .int l1), (2, .int l2), (3, .int l3), (4, .int l4), (5, .int l5), (6, .int l6), (7, .int l7)] [] := by
    intro z l2 l3 l4 l5 l6 l7 h
    unfold fX1_weighOne_5_L17_J95 at h
    refine G_iload_n (pc' := 96) C dX1_weighOne_95 2 rfl rfl ?_
    refine G_iconst (pc' := 97) (v := (3 : Int32)) C dX1_weighOne_96 (by decide) rfl ?_
    refine G_idiv (pc' := 98) C dX1_weighOne_97 (by decide) rfl ?_
    refine G_istore_n (pc' := 99) C dX1_weighOne_98 [(2, .int (l2 / (3 : Int32))), (0, .ref (o + 5)), (1, .int l1), (3, .int l3), (4, .int l4), (5, .int l5), (6, .int l6), (7, .int l7)] (by decide) rfl rfl ?_
    refine G_iload_n (pc' := 100) C dX1_weighOne_99 3 rfl rfl ?_
    refine G_iconst (pc' := 101) (v := (3 : Int32)) C dX1_weighOne_100 (by decide) rfl ?_
    refine G_imul (pc' := 102) C dX1_weighOne_101 rfl ?_
    refine G_istore_n (pc' := 103) C dX1_weighOne_102 [(3, .int (l3 * (3 : Int32))), (2, .int (l2 / (3 : Int32))), (0, .ref (o + 5)), (1, .int l1), (4, .int l4), (5, .int l5), (6, .int l6), (7, .int l7)] (by decide) rfl rfl ?_
    refine G_iinc (pc' := 106) C dX1_weighOne_103 7 rfl rfl [(7, .int (l7 + (1 : Int32))), (3, .int (l3 * (3 : Int32))), (2, .int (l2 / (3 : Int32))), (0, .ref (o + 5)), (1, .int l1), (4, .int l4), (5, .int l5), (6, .int l6)] (by decide) rfl rfl ?_
    refine G_goto (tgt := 17) C dX1_weighOne_106 (by decide) ?_
    exact G_sub (lv' := [(0, .ref (o + 5)), (1, .int l1), (2, .int (l2 / (3 : Int32))), (3, .int (l3 * (3 : Int32))), (4, .int l4), (5, .int l5), (6, .int l6), (7, .int (l7 + (1 : Int32)))]) [3, 4, 2, 1, 5, 6, 7, 0] rfl (kc ((l2 / (3 : Int32)), (l3 * (3 : Int32)), l4, l5, l6, (l7 + (1 : Int32)), z) (Option.some.inj h).symm)
  unfold fX1_weighOne_5_L17 at h
  refine G_iload (pc' := 19) C dX1_weighOne_17 7 rfl rfl ?_
  refine G_aload_n (pc' := 20) C dX1_weighOne_19 0 rfl rfl ?_
  refine G_get (pc' := 23) (k := 2) C fi_X1 dX1_weighOne_20 tw_fl_X1_19 rfl (by decide) (CB_rd 5 rfl) rfl rfl ?_
  replace h := ob h
  obtain ⟨ad1, had1, h⟩ := h
  rw [had1]
  replace h := ob h
  obtain ⟨t2, ht2, h⟩ := h
  refine G_get (pc' := 26) (k := 1) C fi_X8 dX1_weighOne_23 tw_fl_X1_27 rfl (by decide) (CB_T ht2) rfl rfl ?_
  refine G_icmp_ge (tgt := 109) (pc' := 29) C dX1_weighOne_26 (by decide) rfl (fun hc => ?_) (fun hc => ?_)
  · replace h := z_ip hc h
    exact G_sub (lv' := [(0, .ref (o + 5)), (1, .int l1), (4, .int l4), (5, .int l5), (6, .int l6)]) [0, 1, 4, 5, 6] rfl (kx _ (Option.some.inj h).symm)
  · replace h := z_in hc h
    refine G_iload_n (pc' := 30) C dX1_weighOne_29 2 rfl rfl ?_
    refine G_iconst (pc' := 31) (v := (3 : Int32)) C dX1_weighOne_30 (by decide) rfl ?_
    refine G_irem (pc' := 32) C dX1_weighOne_31 (by decide) rfl ?_
    refine G_istore (pc' := 34) C dX1_weighOne_32 [(8, .int (l2 - l2 / (3 : Int32) * (3 : Int32))), (0, .ref (o + 5)), (1, .int l1), (2, .int l2), (3, .int l3), (4, .int l4), (5, .int l5), (6, .int l6), (7, .int l7)] (by decide) rfl rfl ?_
    refine G_iload (pc' := 36) C dX1_weighOne_34 0 rfl rfl ?_
    refine G_iconst (pc' := 37) (v := (2 : Int32)) C dX1_weighOne_36 (by decide) rfl ?_
    refine G_icmp_ne (tgt := 85) (pc' := 40) C dX1_weighOne_37 (by decide) rfl (fun hc => ?_) (fun hc => ?_)
    · replace h := z_in hc h
      refine G_iload (pc' := 87) C dX1_weighOne_85 6 rfl rfl ?_
      refine G_iload (pc' := 89) C dX1_weighOne_87 0 rfl rfl ?_
      refine G_iload (pc' := 91) C dX1_weighOne_89 8 rfl rfl ?_
      refine G_ishl (pc' := 92) C dX1_weighOne_91 rfl ?_
      refine G_ior (pc' := 93) C dX1_weighOne_92 rfl ?_
      refine G_istore (pc' := 95) C dX1_weighOne_93 [(5, .int (l5 ||| ((l2 - l2 / (3 : Int32) * (3 : Int32)) <<< (l7 &&& 31)))), (8, .int (l2 - l2 / (3 : Int32) * (3 : Int32))), (0, .ref (o + 5)), (1, .int l1), (2, .int l2), (3, .int l3), (4, .int l4), (6, .int l6), (7, .int l7)] (by decide) rfl rfl ?_
      exact G_sub (lv' := [(0, .ref (o + 5)), (1, .int l1), (2, .int l2), (3, .int l3), (4, .int l4), (5, .int (l5 ||| ((l2 - l2 / (3 : Int32) * (3 : Int32)) <<< (l7 &&& 31)))), (6, .int l6), (7, .int l7)]) [2, 3, 4, 5, 6, 0, 7, 8] rfl (J95 z l2 l3 l4 (l5 ||| ((l2 - l2 / (3 : Int32) * (3 : Int32)) <<< (l7 &&& 31))) l6 l7 h)
    · replace h := z_ip hc h
      refine G_iinc (pc' := 43) C dX1_weighOne_40 5 rfl rfl [(4, .int (l4 + (1 : Int32))), (8, .int (l2 - l2 / (3 : Int32) * (3 : Int32))), (0, .ref (o + 5)), (1, .int l1), (2, .int l2), (3, .int l3), (5, .int l5), (6, .int l6), (7, .int l7)] (by decide) rfl rfl ?_
      refine G_aload_n (pc' := 44) C dX1_weighOne_43 2 rfl rfl ?_
      refine G_get (pc' := 47) (k := 0) C fi_X1 dX1_weighOne_44 tw_fl_X1_9 rfl (by decide) (CB_rd 5 rfl) rfl rfl ?_
      refine G_iload_n (pc' := 48) C dX1_weighOne_47 3 rfl rfl ?_
      refine G_aload_n (pc' := 49) C dX1_weighOne_48 2 rfl rfl ?_
      refine G_get (pc' := 52) (k := 0) C fi_X1 dX1_weighOne_49 tw_fl_X1_9 rfl (by decide) (CB_rd 5 rfl) rfl rfl ?_
      refine G_iload_n (pc' := 53) C dX1_weighOne_52 3 rfl rfl ?_
      refine G_iload_n (pc' := 54) C dX1_weighOne_53 5 rfl rfl ?_
      refine G_isub (pc' := 55) C dX1_weighOne_54 rfl ?_
      replace h := ob h
      obtain ⟨v3, hv3, h⟩ := h
      refine G_baldV (pc' := 56) C dX1_weighOne_55 (CB_rd 6 rfl) hv3 rfl ?_
      refine G_aload_n (pc' := 57) C dX1_weighOne_56 2 rfl rfl ?_
      refine G_get (pc' := 60) (k := 0) C fi_X1 dX1_weighOne_57 tw_fl_X1_9 rfl (by decide) (CB_rd 5 rfl) rfl rfl ?_
      refine G_iload_n (pc' := 61) C dX1_weighOne_60 3 rfl rfl ?_
      refine G_iconst (pc' := 62) (v := (2 : Int32)) C dX1_weighOne_61 (by decide) rfl ?_
      refine G_iload_n (pc' := 63) C dX1_weighOne_62 5 rfl rfl ?_
      refine G_imul (pc' := 64) C dX1_weighOne_63 rfl ?_
      refine G_isub (pc' := 65) C dX1_weighOne_64 rfl ?_
      replace h := ob h
      obtain ⟨v4, hv4, h⟩ := h
      refine G_baldV (pc' := 66) C dX1_weighOne_65 (CB_rd 6 rfl) hv4 rfl ?_
      refine G_ior (pc' := 67) C dX1_weighOne_66 rfl ?_
      refine G_i2b (pc' := 68) C dX1_weighOne_67 rfl ?_
      replace h := ob h
      obtain ⟨z5, hz5, h⟩ := h
      refine C_s_6 (pc' := 69) C dX1_weighOne_68 hz5 rfl ?_
      refine G_iload (pc' := 71) C dX1_weighOne_69 7 rfl rfl ?_
      refine G_aload_n (pc' := 72) C dX1_weighOne_71 2 rfl rfl ?_
      refine G_iload_n (pc' := 73) C dX1_weighOne_72 3 rfl rfl ?_
      refine G_iload_n (pc' := 74) C dX1_weighOne_73 5 rfl rfl ?_
      replace h := ob h
      obtain ⟨q6, hq6, h⟩ := h
      refine G_cV0 (pc' := 77) C dX1_weighOne_74 (tX1_weightOfHalves_5 κ l o z5 l1 l3 q6 hq6) (wV tw_ml_X1_45 tw_im_X1_weightOfHalves tw_se_X1_X1_weightOfHalves tw_in_X1 tw_co_X1_weightOfHalves) yd_X1_weightOfHalves rfl fi_X1 (CB_rd 5 rfl) rfl rfl (by decide) rfl (Nat.le_of_ble_eq_true rfl) rfl rfl ?_
      refine G_mmin (pc' := 80) C dX1_weighOne_77 tw_ml_X1_49 (by decide) rfl ?_
      refine G_istore (pc' := 82) C dX1_weighOne_80 [(6, .int (if q6 < l6 then q6 else l6)), (4, .int (l4 + (1 : Int32))), (8, .int (l2 - l2 / (3 : Int32) * (3 : Int32))), (0, .ref (o + 5)), (1, .int l1), (2, .int l2), (3, .int l3), (5, .int l5), (7, .int l7)] (by decide) rfl rfl ?_
      refine G_goto (tgt := 95) C dX1_weighOne_82 (by decide) ?_
      exact G_sub (lv' := [(0, .ref (o + 5)), (1, .int l1), (2, .int l2), (3, .int l3), (4, .int (l4 + (1 : Int32))), (5, .int l5), (6, .int (if q6 < l6 then q6 else l6)), (7, .int l7)]) [3, 4, 5, 6, 1, 7, 0, 8] rfl (J95 z5 l2 l3 (l4 + (1 : Int32)) l5 (if q6 < l6 then q6 else l6) l7 h)
set_option maxHeartbeats 4000000 in
set_option maxRecDepth 100000 in
theorem tX1_weighOne_5 (κ : KK) (l : Launch) (o : Nat) (z : CS) (a1 : Int32) (q : CS) (h : fX1_weighOne_5 o z a1 = some q) : MM κ l yX1_weighOne cX1_weighOne 9 none rmX1_weighOne_5 (CA o) [.ref (o + 5), .int a1] (CB κ o z) none (CB κ o q) := by
  refine MM.of (by decide +kernel) (Nat.le_of_ble_eq_true rfl) ?_
  intro p e s m below meth c C hnm
  have J179 : ∀ (z : CS) (s0 : Int32) (s1 : Int32), fX1_weighOne_5_J179 o z s0 s1 = some q → GC κ p l e s m ([.ref (o + 5), .int a1] : List Value).toArray below meth c rmX1_weighOne_5 9 o none (CB κ o q) 0 0 z 179 [] [.int s0, .int s1, .ref (o + 7)] := by
    intro z s0 s1 h
    unfold fX1_weighOne_5_J179 at h
    replace h := ob h
    obtain ⟨z10, hz10, h⟩ := h
    refine C_s_7 (pc' := 180) C dX1_weighOne_179 hz10 rfl ?_
    refine G_widen (k := rmX1_weighOne_5.cells) (n := rmX1_weighOne_5.slots) (by decide) (by decide) ?_
    obtain rfl := Option.some.inj h
    exact G_vret C dX1_weighOne_180 (fun _ h => h)
  have J153 : ∀ (z : CS) (l1 : Int32) (l4 : Int32) (l6 : Int32), fX1_weighOne_5_J153 o z l1 l4 l6 = some q → GC κ p l e s m ([.ref (o + 5), .int a1] : List Value).toArray below meth c rmX1_weighOne_5 9 o none (CB κ o q) 0 0 z 153 [(0, .ref (o + 5)), (1, .int l1), (4, .int l4), (6, .int l6)] [] := by
    intro z l1 l4 l6 h
    unfold fX1_weighOne_5_J153 at h
    refine G_aload_n (pc' := 154) C dX1_weighOne_153 0 rfl rfl ?_
    refine G_get (pc' := 157) (k := 1) C fi_X1 dX1_weighOne_154 tw_fl_X1_15 rfl (by decide) (CB_rd 5 rfl) rfl rfl ?_
    refine G_iload_n (pc' := 158) C dX1_weighOne_157 1 rfl rfl ?_
    refine G_aload_n (pc' := 159) C dX1_weighOne_158 0 rfl rfl ?_
    refine G_iload_n (pc' := 160) C dX1_weighOne_159 1 rfl rfl ?_
    replace h := ob h
    obtain ⟨q8, hq8, h⟩ := h
    refine G_cV0 (pc' := 163) C dX1_weighOne_160 (tX1_isSettled_5 κ l o z l1 q8 hq8) (wV tw_ml_X1_57 tw_im_X1_isSettled tw_se_X1_X1_isSettled tw_in_X1 tw_co_X1_isSettled) yd_X1_isSettled rfl fi_X1 (CB_rd 5 rfl) rfl rfl (by decide) rfl (Nat.le_of_ble_eq_true rfl) rfl rfl ?_
    refine G_if_eq (tgt := 170) (pc' := 166) C dX1_weighOne_163 (by decide) rfl (fun hc => ?_) (fun hc => ?_)
    · replace h := z_ip hc h
      refine G_iload (pc' := 172) C dX1_weighOne_170 3 rfl rfl ?_
      refine G_aload_n (pc' := 173) C dX1_weighOne_172 0 rfl rfl ?_
      refine G_iload (pc' := 175) C dX1_weighOne_173 2 rfl rfl ?_
      replace h := ob h
      obtain ⟨q9, hq9, h⟩ := h
      refine G_cV0 (pc' := 178) C dX1_weighOne_175 (tX1_ownWeight_5 κ l o z l4 q9 hq9) (wV tw_ml_X1_61 tw_im_X1_ownWeight tw_se_X1_X1_ownWeight tw_in_X1 tw_co_X1_ownWeight) yd_X1_ownWeight rfl fi_X1 (CB_rd 5 rfl) rfl rfl (by decide) rfl (Nat.le_of_ble_eq_true rfl) rfl rfl ?_
      refine G_iadd (pc' := 179) C dX1_weighOne_178 rfl ?_
      exact G_sub (lv' := []) [] rfl (J179 z (l6 + q9) l1 h)
    · replace h := z_in hc h
      refine G_iconst (pc' := 167) (v := (0 : Int32)) C dX1_weighOne_166 (by decide) rfl ?_
      refine G_goto (tgt := 179) C dX1_weighOne_167 (by decide) ?_
      exact G_sub (lv' := []) [] rfl (J179 z (0 : Int32) l1 h)
  have J151 : ∀ (z : CS) (l1 : Int32) (l4 : Int32) (l6 : Int32) (s0 : Int32) (s1 : Int32), fX1_weighOne_5_J151 o z l1 l4 l6 s0 s1 = some q → GC κ p l e s m ([.ref (o + 5), .int a1] : List Value).toArray below meth c rmX1_weighOne_5 9 o none (CB κ o q) 0 0 z 151 [(0, .ref (o + 5)), (1, .int l1), (4, .int l4), (6, .int l6)] [.int s0, .int s1, .ref (o + 6)] := by
    intro z l1 l4 l6 s0 s1 h
    unfold fX1_weighOne_5_J151 at h
    refine G_i2b (pc' := 152) C dX1_weighOne_151 rfl ?_
    replace h := ob h
    obtain ⟨z15, hz15, h⟩ := h
    refine C_s_6 (pc' := 153) C dX1_weighOne_152 hz15 rfl ?_
    exact G_sub (lv' := [(0, .ref (o + 5)), (1, .int l1), (4, .int l4), (6, .int l6)]) [0, 1, 2, 3] rfl (J153 z15 l1 l4 l6 h)
  unfold fX1_weighOne_5 at h
  refine G_sub (lv' := [(0, .ref (o + 5)), (1, .int a1)]) [0, 1] rfl ?_
  refine G_iload_n (pc' := 1) C dX1_weighOne_0 1 rfl rfl ?_
  refine G_istore_n (pc' := 2) C dX1_weighOne_1 [(2, .int a1), (0, .ref (o + 5)), (1, .int a1)] (by decide) rfl rfl ?_
  refine G_iconst (pc' := 3) (v := (1 : Int32)) C dX1_weighOne_2 (by decide) rfl ?_
  refine G_istore_n (pc' := 4) C dX1_weighOne_3 [(3, .int (1 : Int32)), (2, .int a1), (0, .ref (o + 5)), (1, .int a1)] (by decide) rfl rfl ?_
  refine G_iconst (pc' := 5) (v := (0 : Int32)) C dX1_weighOne_4 (by decide) rfl ?_
  refine G_istore (pc' := 7) C dX1_weighOne_5 [(4, .int (0 : Int32)), (3, .int (1 : Int32)), (2, .int a1), (0, .ref (o + 5)), (1, .int a1)] (by decide) rfl rfl ?_
  refine G_iconst (pc' := 8) (v := (0 : Int32)) C dX1_weighOne_7 (by decide) rfl ?_
  refine G_istore (pc' := 10) C dX1_weighOne_8 [(5, .int (0 : Int32)), (4, .int (0 : Int32)), (3, .int (1 : Int32)), (2, .int a1), (0, .ref (o + 5)), (1, .int a1)] (by decide) rfl rfl ?_
  refine G_ldc (pc' := 12) C dX1_weighOne_10 tw_k_X1_44 rfl ?_
  refine G_istore (pc' := 14) C dX1_weighOne_12 [(6, .int (1000000 : Int32)), (5, .int (0 : Int32)), (4, .int (0 : Int32)), (3, .int (1 : Int32)), (2, .int a1), (0, .ref (o + 5)), (1, .int a1)] (by decide) rfl rfl ?_
  refine G_iconst (pc' := 15) (v := (0 : Int32)) C dX1_weighOne_14 (by decide) rfl ?_
  refine G_istore (pc' := 17) C dX1_weighOne_15 [(7, .int (0 : Int32)), (6, .int (1000000 : Int32)), (5, .int (0 : Int32)), (4, .int (0 : Int32)), (3, .int (1 : Int32)), (2, .int a1), (0, .ref (o + 5)), (1, .int a1)] (by decide) rfl rfl ?_
  replace h := ob h
  obtain ⟨e7, hle7, h⟩ := h
  refine G_sub (lv' := [(0, .ref (o + 5)), (1, .int a1), (2, .int a1), (3, .int (1 : Int32)), (4, .int (0 : Int32)), (5, .int (0 : Int32)), (6, .int (1000000 : Int32)), (7, .int (0 : Int32))]) [6, 7, 5, 4, 3, 2, 1, 0] rfl ?_
  refine lpN_ind (body := fun u => fX1_weighOne_5_L17 o u.2.2.2.2.2.2 a1 u.1 u.2.1 u.2.2.1 u.2.2.2.1 u.2.2.2.2.1 u.2.2.2.2.2.1) (P := fun u => GC κ p l e s m ([.ref (o + 5), .int a1] : List Value).toArray below meth c rmX1_weighOne_5 9 o none (CB κ o q) 0 0 u.2.2.2.2.2.2 17 [(0, .ref (o + 5)), (1, .int a1), (2, .int u.1), (3, .int u.2.1), (4, .int u.2.2.1), (5, .int u.2.2.2.1), (6, .int u.2.2.2.2.1), (7, .int u.2.2.2.2.2.1)] []) (X := fun w => GC κ p l e s m ([.ref (o + 5), .int a1] : List Value).toArray below meth c rmX1_weighOne_5 9 o none (CB κ o q) 0 0 w.2.2.2 109 [(0, .ref (o + 5)), (1, .int a1), (4, .int w.1), (5, .int w.2.1), (6, .int w.2.2.1)] []) (fun u y hb kc kx => tX1_weighOne_5_L17 C hb kc kx) _ _ _ hle7 ?_
  refine G_iload (pc' := 111) C dX1_weighOne_109 2 rfl rfl ?_
  refine G_if_ne (tgt := 153) (pc' := 114) C dX1_weighOne_111 (by decide) rfl (fun hc => ?_) (fun hc => ?_)
  · replace h := z_in hc h
    exact G_sub (lv' := [(0, .ref (o + 5)), (1, .int a1), (4, .int e7.1), (6, .int e7.2.2.1)]) [0, 1, 2, 4] rfl (J153 e7.2.2.2 a1 e7.1 e7.2.2.1 h)
  · replace h := z_ip hc h
    refine G_aload_n (pc' := 115) C dX1_weighOne_114 0 rfl rfl ?_
    refine G_get (pc' := 118) (k := 2) C fi_X1 dX1_weighOne_115 tw_fl_X1_19 rfl (by decide) (CB_rd 5 rfl) rfl rfl ?_
    replace h := ob h
    obtain ⟨ad11, had11, h⟩ := h
    rw [had11]
    replace h := ob h
    obtain ⟨t12, ht12, h⟩ := h
    refine G_get (pc' := 121) (k := 3) C fi_X8 dX1_weighOne_118 tw_fl_X1_54 rfl (by decide) (CB_T ht12) rfl rfl ?_
    refine G_iload (pc' := 123) C dX1_weighOne_121 3 rfl rfl ?_
    replace h := ob h
    obtain ⟨ad13, had13, h⟩ := h
    rw [had13]
    replace h := ob h
    obtain ⟨v14, hv14, h⟩ := h
    refine P_bald (pc' := 124) C dX1_weighOne_123 hv14 rfl ?_
    refine G_istore (pc' := 126) C dX1_weighOne_124 [(7, .int v14), (0, .ref (o + 5)), (1, .int a1), (4, .int e7.1), (5, .int e7.2.1), (6, .int e7.2.2.1)] (by decide) rfl rfl ?_
    refine G_aload_n (pc' := 127) C dX1_weighOne_126 1 rfl rfl ?_
    refine G_get (pc' := 130) (k := 0) C fi_X1 dX1_weighOne_127 tw_fl_X1_9 rfl (by decide) (CB_rd 5 rfl) rfl rfl ?_
    refine G_iload_n (pc' := 131) C dX1_weighOne_130 2 rfl rfl ?_
    refine G_iload (pc' := 133) C dX1_weighOne_131 0 rfl rfl ?_
    refine G_if_ne (tgt := 140) (pc' := 136) C dX1_weighOne_133 (by decide) rfl (fun hc => ?_) (fun hc => ?_)
    · replace h := z_in hc h
      refine G_iload (pc' := 142) C dX1_weighOne_140 0 rfl rfl ?_
      refine G_iconst (pc' := 143) (v := (1 : Int32)) C dX1_weighOne_142 (by decide) rfl ?_
      refine G_icmp_ne (tgt := 150) (pc' := 146) C dX1_weighOne_143 (by decide) rfl (fun hc => ?_) (fun hc => ?_)
      · replace h := z_in hc h
        refine G_iconst (pc' := 151) (v := (0 : Int32)) C dX1_weighOne_150 (by decide) rfl ?_
        exact G_sub (lv' := [(0, .ref (o + 5)), (1, .int a1), (4, .int e7.1), (6, .int e7.2.2.1)]) [1, 2, 3, 5] rfl (J151 e7.2.2.2 a1 e7.1 e7.2.2.1 (0 : Int32) a1 h)
      · replace h := z_ip hc h
        refine G_iconst (pc' := 147) (v := (2 : Int32)) C dX1_weighOne_146 (by decide) rfl ?_
        refine G_goto (tgt := 151) C dX1_weighOne_147 (by decide) ?_
        exact G_sub (lv' := [(0, .ref (o + 5)), (1, .int a1), (4, .int e7.1), (6, .int e7.2.2.1)]) [1, 2, 3, 5] rfl (J151 e7.2.2.2 a1 e7.1 e7.2.2.1 (2 : Int32) a1 h)
    · replace h := z_ip hc h
      refine G_iconst (pc' := 137) (v := (1 : Int32)) C dX1_weighOne_136 (by decide) rfl ?_
      refine G_goto (tgt := 151) C dX1_weighOne_137 (by decide) ?_
      exact G_sub (lv' := [(0, .ref (o + 5)), (1, .int a1), (4, .int e7.1), (6, .int e7.2.2.1)]) [1, 2, 3, 5] rfl (J151 e7.2.2.2 a1 e7.1 e7.2.2.1 (1 : Int32) a1 h)
