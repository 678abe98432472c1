theorem dX9_ask_0 : decode cX9_ask 0 = .ok (.aload_n 0, 1) := by decide +kernel
theorem dX9_ask_1 : decode cX9_ask 1 = .ok (.getfield 78, 3) := by decide +kernel
theorem dX9_ask_4 : decode cX9_ask 4 = .ok (.iload_n 1, 1) := by decide +kernel
theorem dX9_ask_5 : decode cX9_ask 5 = .ok (.invokevirtual 303, 3) := by decide +kernel
theorem dX9_ask_8 : decode cX9_ask 8 = .ok (.ireturn, 1) := by decide +kernel
theorem yd_X9_ask : yX9_ask.cls = RX9 ∧ yX9_ask.cls ≠ "java/lang/invoke/MethodHandle" ∧ yX9_ask.cls ≠ "java/lang/invoke/VarHandle" ∧ (parseMethodDescriptor yX9_ask.desc).map (fun d => d.parameters.length) = some 1 := by decide +kernel
abbrev rmX9_ask : Room := { frames := 2, cells := 0, slots := 0, locals := 46 }
def fX9_ask (o : Nat) (z : CS) (a1 : Int32) : Option (Int32 × CS) :=
  (fX3_answer o z a1).bind fun q1 =>
  some (q1.1, q1.2)
set_option maxHeartbeats 4000000 in
set_option maxRecDepth 100000 in
theorem tX9_ask (κ : KK) (l : Launch) (o : Nat) (z : CS) (a1 : Int32) (q : Int32 × CS) (h : fX9_ask o z a1 = some q) : MM κ l yX9_ask cX9_ask 2 (some .int) rmX9_ask (CA o) [.ref o, .int a1] (CB κ o z) (some (Value.int q.1)) (CB κ o q.2) := by
  refine MM.of (by decide +kernel) (Nat.le_of_ble_eq_true rfl) ?_
  intro p e s m below meth c C hnm
  unfold fX9_ask at h
  refine G_sub (lv' := [(0, .ref o), (1, .int a1)]) [0, 1] rfl ?_
  refine G_aload_n (pc' := 1) C dX9_ask_0 0 rfl rfl ?_
  refine G_get (pc' := 4) (k := 11) C fi_X9 dX9_ask_1 tw_fl_X9_78 rfl (by decide) (CB_rd 0 rfl) rfl rfl ?_
  refine G_iload_n (pc' := 5) C dX9_ask_4 1 rfl rfl ?_
  replace h := ob h
  obtain ⟨q1, hq1, h⟩ := h
  refine G_cV0 (pc' := 8) C dX9_ask_5 (tX3_answer κ l o z a1 q1 hq1) (wV tw_ml_X9_303 tw_im_X3_answer tw_se_X3_X3_answer tw_in_X3 tw_co_X3_answer) yd_X3_answer rfl fi_X3 (CB_rd 28 rfl) rfl rfl (by decide) rfl (Nat.le_of_ble_eq_true rfl) rfl rfl ?_
  refine G_widen (k := rmX9_ask.cells) (n := rmX9_ask.slots) (by decide) (by decide) ?_
  obtain rfl := Option.some.inj h
  exact G_iret C dX9_ask_8 (fun _ h => h)
theorem dX9_bring_0 : decode cX9_bring 0 = .ok (.iconst 0, 1) := by decide +kernel
theorem dX9_bring_1 : decode cX9_bring 1 = .ok (.istore_n 2, 1) := by decide +kernel
theorem dX9_bring_2 : decode cX9_bring 2 = .ok (.iload_n 2, 1) := by decide +kernel
theorem dX9_bring_3 : decode cX9_bring 3 = .ok (.bipush 8, 2) := by decide +kernel
theorem dX9_bring_5 : decode cX9_bring 5 = .ok (.if_icmp .ge 15, 3) := by decide +kernel
theorem dX9_bring_8 : decode cX9_bring 8 = .ok (.aload_n 1, 1) := by decide +kernel
theorem dX9_bring_9 : decode cX9_bring 9 = .ok (.iload_n 2, 1) := by decide +kernel
theorem dX9_bring_10 : decode cX9_bring 10 = .ok (.aload_n 0, 1) := by decide +kernel
theorem dX9_bring_11 : decode cX9_bring 11 = .ok (.iload_n 2, 1) := by decide +kernel
theorem dX9_bring_12 : decode cX9_bring 12 = .ok (.aaload, 1) := by decide +kernel
theorem dX9_bring_13 : decode cX9_bring 13 = .ok (.aastore, 1) := by decide +kernel
theorem dX9_bring_14 : decode cX9_bring 14 = .ok (.iinc 2 1, 3) := by decide +kernel
theorem dX9_bring_17 : decode cX9_bring 17 = .ok (.goto (-15), 3) := by decide +kernel
theorem dX9_bring_20 : decode cX9_bring 20 = .ok (.return_, 1) := by decide +kernel
theorem yd_X9_bring : yX9_bring.cls ≠ "java/lang/invoke/MethodHandle" ∧ yX9_bring.cls ≠ "java/lang/invoke/VarHandle" ∧ (parseMethodDescriptor yX9_bring.desc).map (fun d => d.parameters.length) = some 2 := by decide +kernel
abbrev rmX9_bring_2_3 : Room := { frames := 0, cells := 0, slots := 0, locals := 0 }
def fX9_bring_2_3_L2 (o : Nat) (z : CS) (l2 : Int32) : Option ((Int32 × CS) ⊕ CS) :=
  if (8 : Int32) ≤ l2 then
    some (.inr z)
  else
    (aQ 8 (z.2.2.1 1) l2).bind fun v1 =>
    (stQT z 2 l2 v1).bind fun z2 =>
    some (.inl ((l2 + (1 : Int32)), z2))
def fX9_bring_2_3 (o : Nat) (z : CS) : Option (CS) :=
  (lpN (fun u => fX9_bring_2_3_L2 o u.2 u.1) bigN ((0 : Int32), z)).bind fun e3 =>
  some e3
set_option maxHeartbeats 4000000 in
set_option maxRecDepth 100000 in
theorem tX9_bring_2_3_L2 {κ : KK} {p : Program} {l : Launch} {e : Env} {s : State} {m : MethodId} {args : Array Value} {below : List Frame} {meth : Method} {c : Code} (C : Cx κ p s m args meth c cX9_bring 3 RX9 none) {o : Nat} {v : Option Value} {B' : Heap → Prop} {z : CS} {l2 : Int32} {y : (Int32 × CS) ⊕ CS} (h : fX9_bring_2_3_L2 o z l2 = some y) (kc : ∀ u, y = .inl u → GC κ p l e s m args below meth c rmX9_bring_2_3 3 o v B' 0 0 u.2 2 [(0, .ref (o + 2)), (1, .ref (o + 3)), (2, .int u.1)] []) (kx : ∀ w, y = .inr w → GC κ p l e s m args below meth c rmX9_bring_2_3 3 o v B' 0 0 w 20 [] []) : GC κ p l e s m args below meth c rmX9_bring_2_3 3 o v B' 0 0 z 2 [(0, .ref (o + 2)), (1, .ref (o + 3)), (2, .int l2)] [] := by
  unfold fX9_bring_2_3_L2 at h
  refine G_iload_n (pc' := 3) C dX9_bring_2 2 rfl rfl ?_
  refine G_bipush (pc' := 5) (v := (8 : Int32)) C dX9_bring_3 (by decide) rfl ?_
  refine G_icmp_ge (tgt := 20) (pc' := 8) C dX9_bring_5 (by decide) rfl (fun hc => ?_) (fun hc => ?_)
  · replace h := z_ip hc h
    exact G_sub (lv' := []) [] rfl (kx _ (Option.some.inj h).symm)
  · replace h := z_in hc h
    refine G_aload_n (pc' := 9) C dX9_bring_8 1 rfl rfl ?_
    refine G_iload_n (pc' := 10) C dX9_bring_9 2 rfl rfl ?_
    refine G_aload_n (pc' := 11) C dX9_bring_10 0 rfl rfl ?_
    refine G_iload_n (pc' := 12) C dX9_bring_11 2 rfl rfl ?_
    replace h := ob h
    obtain ⟨v1, hv1, h⟩ := h
    refine G_aald5V (pc' := 13) C dX9_bring_12 (CB_rd 2 rfl) hv1 rfl ?_
    replace h := ob h
    obtain ⟨z2, hz2, h⟩ := h
    refine C_q_kept (pc' := 14) (x := v1) C dX9_bring_13 hz2 rfl ?_
    refine G_iinc (pc' := 17) C dX9_bring_14 2 rfl rfl [(2, .int (l2 + (1 : Int32))), (0, .ref (o + 2)), (1, .ref (o + 3))] (by decide) rfl rfl ?_
    refine G_goto (tgt := 2) C dX9_bring_17 (by decide) ?_
    exact G_sub (lv' := [(0, .ref (o + 2)), (1, .ref (o + 3)), (2, .int (l2 + (1 : Int32)))]) [1, 2, 0] rfl (kc ((l2 + (1 : Int32)), z2) (Option.some.inj h).symm)
set_option maxHeartbeats 4000000 in
set_option maxRecDepth 100000 in
theorem tX9_bring_2_3 (κ : KK) (l : Launch) (o : Nat) (z : CS) (q : CS) (h : fX9_bring_2_3 o z = some q) : MM κ l yX9_bring cX9_bring 3 none rmX9_bring_2_3 (CA o) [.ref (o + 2), .ref (o + 3)] (CB κ o z) none (CB κ o q) := by
  refine MM.of (by decide +kernel) (Nat.le_of_ble_eq_true rfl) ?_
  intro p e s m below meth c C hnm
  unfold fX9_bring_2_3 at h
  refine G_sub (lv' := [(0, .ref (o + 2)), (1, .ref (o + 3))]) [0, 1] rfl ?_
  refine G_iconst (pc' := 1) (v := (0 : Int32)) C dX9_bring_0 (by decide) rfl ?_
  refine G_istore_n (pc' := 2) C dX9_bring_1 [(2, .int (0 : Int32)), (0, .ref (o + 2)), (1, .ref (o + 3))] (by decide) rfl rfl ?_
  replace h := ob h
  obtain ⟨e3, hle3, h⟩ := h
  refine G_sub (lv' := [(0, .ref (o + 2)), (1, .ref (o + 3)), (2, .int (0 : Int32))]) [1, 2, 0] rfl ?_
  refine lpN_ind (body := fun u => fX9_bring_2_3_L2 o u.2 u.1) (P := fun u => GC κ p l e s m ([.ref (o + 2), .ref (o + 3)] : List Value).toArray below meth c rmX9_bring_2_3 3 o none (CB κ o q) 0 0 u.2 2 [(0, .ref (o + 2)), (1, .ref (o + 3)), (2, .int u.1)] []) (X := fun w => GC κ p l e s m ([.ref (o + 2), .ref (o + 3)] : List Value).toArray below meth c rmX9_bring_2_3 3 o none (CB κ o q) 0 0 w 20 [] []) (fun u y hb kc kx => tX9_bring_2_3_L2 C hb kc kx) _ _ _ hle3 ?_
  refine G_widen (k := rmX9_bring_2_3.cells) (n := rmX9_bring_2_3.slots) (by decide) (by decide) ?_
  obtain rfl := Option.some.inj h
  exact G_vret C dX9_bring_20 (fun _ h => h)
theorem dX9_howManyTasks_0 : decode cX9_howManyTasks 0 = .ok (.iconst 0, 1) := by decide +kernel
theorem dX9_howManyTasks_1 : decode cX9_howManyTasks 1 = .ok (.istore_n 1, 1) := by decide +kernel
theorem dX9_howManyTasks_2 : decode cX9_howManyTasks 2 = .ok (.iconst 0, 1) := by decide +kernel
theorem dX9_howManyTasks_3 : decode cX9_howManyTasks 3 = .ok (.istore_n 2, 1) := by decide +kernel
theorem dX9_howManyTasks_4 : decode cX9_howManyTasks 4 = .ok (.iload_n 2, 1) := by decide +kernel
theorem dX9_howManyTasks_5 : decode cX9_howManyTasks 5 = .ok (.bipush 8, 2) := by decide +kernel
theorem dX9_howManyTasks_7 : decode cX9_howManyTasks 7 = .ok (.if_icmp .ge 26, 3) := by decide +kernel
theorem dX9_howManyTasks_10 : decode cX9_howManyTasks 10 = .ok (.iload_n 1, 1) := by decide +kernel
theorem dX9_howManyTasks_11 : decode cX9_howManyTasks 11 = .ok (.aload_n 0, 1) := by decide +kernel
theorem dX9_howManyTasks_12 : decode cX9_howManyTasks 12 = .ok (.getfield 17, 3) := by decide +kernel
theorem dX9_howManyTasks_15 : decode cX9_howManyTasks 15 = .ok (.iload_n 2, 1) := by decide +kernel
theorem dX9_howManyTasks_16 : decode cX9_howManyTasks 16 = .ok (.aaload, 1) := by decide +kernel
theorem dX9_howManyTasks_17 : decode cX9_howManyTasks 17 = .ok (.ifnonnull 7, 3) := by decide +kernel
theorem dX9_howManyTasks_20 : decode cX9_howManyTasks 20 = .ok (.iconst 0, 1) := by decide +kernel
theorem dX9_howManyTasks_21 : decode cX9_howManyTasks 21 = .ok (.goto 4, 3) := by decide +kernel
theorem dX9_howManyTasks_24 : decode cX9_howManyTasks 24 = .ok (.iconst 1, 1) := by decide +kernel
theorem dX9_howManyTasks_25 : decode cX9_howManyTasks 25 = .ok (.iadd, 1) := by decide +kernel
theorem dX9_howManyTasks_26 : decode cX9_howManyTasks 26 = .ok (.istore_n 1, 1) := by decide +kernel
theorem dX9_howManyTasks_27 : decode cX9_howManyTasks 27 = .ok (.iinc 2 1, 3) := by decide +kernel
theorem dX9_howManyTasks_30 : decode cX9_howManyTasks 30 = .ok (.goto (-26), 3) := by decide +kernel
theorem dX9_howManyTasks_33 : decode cX9_howManyTasks 33 = .ok (.iload_n 1, 1) := by decide +kernel
theorem dX9_howManyTasks_34 : decode cX9_howManyTasks 34 = .ok (.ireturn, 1) := by decide +kernel
theorem yd_X9_howManyTasks : yX9_howManyTasks.cls = RX9 ∧ yX9_howManyTasks.cls ≠ "java/lang/invoke/MethodHandle" ∧ yX9_howManyTasks.cls ≠ "java/lang/invoke/VarHandle" ∧ (parseMethodDescriptor yX9_howManyTasks.desc).map (fun d => d.parameters.length) = some 0 := by decide +kernel
abbrev rmX9_howManyTasks : Room := { frames := 0, cells := 0, slots := 0, locals := 0 }
def fX9_howManyTasks_L4_J25 (o : Nat) (z : CS) (l2 : Int32) (s0 : Int32) (s1 : Int32) : Option ((Int32 × Int32) ⊕ Int32) :=
  some (.inl ((s1 + s0), (l2 + (1 : Int32))))
def fX9_howManyTasks_L4 (o : Nat) (z : CS) (l1 : Int32) (l2 : Int32) : Option ((Int32 × Int32) ⊕ Int32) :=
  if (8 : Int32) ≤ l2 then
    some (.inr l1)
  else
    (aQ 8 (z.2.2.1 1) l2).bind fun v1 =>
    qc v1
      (
        fX9_howManyTasks_L4_J25 o z l2 (0 : Int32) l1
      )
      (fun ad2 =>
        fX9_howManyTasks_L4_J25 o z l2 (1 : Int32) l1
      )
def fX9_howManyTasks (o : Nat) (z : CS) : Option (Int32) :=
  (lpN (fun u => fX9_howManyTasks_L4 o z u.1 u.2) bigN ((0 : Int32), (0 : Int32))).bind fun e3 =>
  some e3
set_option maxHeartbeats 4000000 in
set_option maxRecDepth 100000 in
theorem tX9_howManyTasks_L4 {κ : KK} {p : Program} {l : Launch} {e : Env} {s : State} {m : MethodId} {args : Array Value} {below : List Frame} {meth : Method} {c : Code} (C : Cx κ p s m args meth c cX9_howManyTasks 3 RX9 (some .int)) {o : Nat} {v : Option Value} {B' : Heap → Prop} {z : CS} {l1 : Int32} {l2 : Int32} {y : (Int32 × Int32) ⊕ Int32} (h : fX9_howManyTasks_L4 o z l1 l2 = some y) (kc : ∀ u, y = .inl u → GC κ p l e s m args below meth c rmX9_howManyTasks 3 o v B' 0 0 z 4 [(0, .ref o), (1, .int u.1), (2, .int u.2)] []) (kx : ∀ w, y = .inr w → GC κ p l e s m args below meth c rmX9_howManyTasks 3 o v B' 0 0 z 33 [(1, .int w)] []) : GC κ p l e s m args below meth c rmX9_howManyTasks 3 o v B' 0 0 z 4 [(0, .ref o), (1, .int l1), (2, .int l2)] [] := by
  have J25 : ∀ (l2 : Int32) (s0 : Int32) (s1 : Int32), fX9_howManyTasks_L4_J25 o z l2 s0 s1 = some y → GC κ p l e s m args below meth c rmX9_howManyTasks 3 o v B' 0 0 z 25 [(0, .ref o), (2, .int l2)] [.int s0, .int s1] := by
    intro l2 s0 s1 h
    unfold fX9_howManyTasks_L4_J25 at h
    refine G_iadd (pc' := 26) C dX9_howManyTasks_25 rfl ?_
    refine G_istore_n (pc' := 27) C dX9_howManyTasks_26 [(1, .int (s1 + s0)), (0, .ref o), (2, .int l2)] (by decide) rfl rfl ?_
    refine G_iinc (pc' := 30) C dX9_howManyTasks_27 2 rfl rfl [(2, .int (l2 + (1 : Int32))), (1, .int (s1 + s0)), (0, .ref o)] (by decide) rfl rfl ?_
    refine G_goto (tgt := 4) C dX9_howManyTasks_30 (by decide) ?_
    exact G_sub (lv' := [(0, .ref o), (1, .int (s1 + s0)), (2, .int (l2 + (1 : Int32)))]) [2, 1, 0] rfl (kc ((s1 + s0), (l2 + (1 : Int32))) (Option.some.inj h).symm)
  unfold fX9_howManyTasks_L4 at h
  refine G_iload_n (pc' := 5) C dX9_howManyTasks_4 2 rfl rfl ?_
  refine G_bipush (pc' := 7) (v := (8 : Int32)) C dX9_howManyTasks_5 (by decide) rfl ?_
  refine G_icmp_ge (tgt := 33) (pc' := 10) C dX9_howManyTasks_7 (by decide) rfl (fun hc => ?_) (fun hc => ?_)
  · replace h := z_ip hc h
    exact G_sub (lv' := [(1, .int l1)]) [1] rfl (kx _ (Option.some.inj h).symm)
  · replace h := z_in hc h
    refine G_iload_n (pc' := 11) C dX9_howManyTasks_10 1 rfl rfl ?_
    refine G_aload_n (pc' := 12) C dX9_howManyTasks_11 0 rfl rfl ?_
    refine G_get (pc' := 15) (k := 1) C fi_X9 dX9_howManyTasks_12 tw_fl_X9_17 rfl (by decide) (CB_rd 0 rfl) rfl rfl ?_
    refine G_iload_n (pc' := 16) C dX9_howManyTasks_15 2 rfl rfl ?_
    replace h := ob h
    obtain ⟨v1, hv1, h⟩ := h
    refine G_aald5V (pc' := 17) C dX9_howManyTasks_16 (CB_rd 2 rfl) hv1 rfl ?_
    refine G_ifnonnull (tgt := 24) (pc' := 20) C dX9_howManyTasks_17 (by decide) rfl (fun ad2 hc => ?_) (fun hc => ?_)
    · replace h := z_qs hc h
      subst hc
      refine G_iconst (pc' := 25) (v := (1 : Int32)) C dX9_howManyTasks_24 (by decide) rfl ?_
      exact G_sub (lv' := [(0, .ref o), (2, .int l2)]) [0, 2] rfl (J25 l2 (1 : Int32) l1 h)
    · replace h := z_qn hc h
      refine G_iconst (pc' := 21) (v := (0 : Int32)) C dX9_howManyTasks_20 (by decide) rfl ?_
      refine G_goto (tgt := 25) C dX9_howManyTasks_21 (by decide) ?_
      exact G_sub (lv' := [(0, .ref o), (2, .int l2)]) [0, 2] rfl (J25 l2 (0 : Int32) l1 h)
set_option maxHeartbeats 4000000 in
set_option maxRecDepth 100000 in
theorem tX9_howManyTasks (κ : KK) (l : Launch) (o : Nat) (z : CS) (q : Int32) (h : fX9_howManyTasks o z = some q) : MM κ l yX9_howManyTasks cX9_howManyTasks 3 (some .int) rmX9_howManyTasks (CA o) [.ref o] (CB κ o z) (some (Value.int q)) (CB κ o z) := by
  refine MM.of (by decide +kernel) (Nat.le_of_ble_eq_true rfl) ?_
  intro p e s m below meth c C hnm
  unfold fX9_howManyTasks at h
  refine G_sub (lv' := [(0, .ref o)]) [0] rfl ?_
  refine G_iconst (pc' := 1) (v := (0 : Int32)) C dX9_howManyTasks_0 (by decide) rfl ?_
  refine G_istore_n (pc' := 2) C dX9_howManyTasks_1 [(1, .int (0 : Int32)), (0, .ref o)] (by decide) rfl rfl ?_
  refine G_iconst (pc' := 3) (v := (0 : Int32)) C dX9_howManyTasks_2 (by decide) rfl ?_
  refine G_istore_n (pc' := 4) C dX9_howManyTasks_3 [(2, .int (0 : Int32)), (1, .int (0 : Int32)), (0, .ref o)] (by decide) rfl rfl ?_
  replace h := ob h
  obtain ⟨e3, hle3, h⟩ := h
  refine G_sub (lv' := [(0, .ref o), (1, .int (0 : Int32)), (2, .int (0 : Int32))]) [2, 1, 0] rfl ?_
  refine lpN_ind (body := fun u => fX9_howManyTasks_L4 o z u.1 u.2) (P := fun u => GC κ p l e s m ([.ref o] : List Value).toArray below meth c rmX9_howManyTasks 3 o (some (Value.int q)) (CB κ o z) 0 0 z 4 [(0, .ref o), (1, .int u.1), (2, .int u.2)] []) (X := fun w => GC κ p l e s m ([.ref o] : List Value).toArray below meth c rmX9_howManyTasks 3 o (some (Value.int q)) (CB κ o z) 0 0 z 33 [(1, .int w)] []) (fun u y hb kc kx => tX9_howManyTasks_L4 C hb kc kx) _ _ _ hle3 ?_
  refine G_iload_n (pc' := 34) C dX9_howManyTasks_33 0 rfl rfl ?_
  obtain rfl := Option.some.inj h
  exact G_iret C dX9_howManyTasks_34 (fun _ h => h)
theorem dX9_keep_0 : decode cX9_keep 0 = .ok (.aload_n 0, 1) := by decide +kernel
theorem dX9_keep_1 : decode cX9_keep 1 = .ok (.getfield 17, 3) := by decide +kernel
theorem dX9_keep_4 : decode cX9_keep 4 = .ok (.aload_n 0, 1) := by decide +kernel
theorem dX9_keep_5 : decode cX9_keep 5 = .ok (.getfield 21, 3) := by decide +kernel
theorem dX9_keep_8 : decode cX9_keep 8 = .ok (.invokestatic 306, 3) := by decide +kernel
theorem dX9_keep_11 : decode cX9_keep 11 = .ok (.aload_n 0, 1) := by decide +kernel
theorem dX9_keep_12 : decode cX9_keep 12 = .ok (.iconst 1, 1) := by decide +kernel
theorem dX9_keep_13 : decode cX9_keep 13 = .ok (.putfield 82, 3) := by decide +kernel
theorem dX9_keep_16 : decode cX9_keep 16 = .ok (.aload_n 0, 1) := by decide +kernel
theorem dX9_keep_17 : decode cX9_keep 17 = .ok (.invokevirtual 310, 3) := by decide +kernel
theorem dX9_keep_20 : decode cX9_keep 20 = .ok (.ireturn, 1) := by decide +kernel
theorem yd_X9_keep : yX9_keep.cls = RX9 ∧ yX9_keep.cls ≠ "java/lang/invoke/MethodHandle" ∧ yX9_keep.cls ≠ "java/lang/invoke/VarHandle" ∧ (parseMethodDescriptor yX9_keep.desc).map (fun d => d.parameters.length) = some 0 := by decide +kernel
abbrev rmX9_keep : Room := { frames := 1, cells := 0, slots := 0, locals := 22 }
def fX9_keep (o : Nat) (z : CS) : Option (Int32 × CS) :=
  (fX9_bring_2_3 o z ).bind fun q1 =>
  (fX9_howManyTasks o (cI q1 0 (1 : Int32)) ).bind fun q2 =>
  some (q2, (cI q1 0 (1 : Int32)))
set_option maxHeartbeats 4000000 in
set_option maxRecDepth 100000 in
theorem tX9_keep (κ : KK) (l : Launch) (o : Nat) (z : CS) (q : Int32 × CS) (h : fX9_keep o z = some q) : MM κ l yX9_keep cX9_keep 1 (some .int) rmX9_keep (CA o) [.ref o] (CB κ o z) (some (Value.int q.1)) (CB κ o q.2) := by
  refine MM.of (by decide +kernel) (Nat.le_of_ble_eq_true rfl) ?_
  intro p e s m below meth c C hnm
  unfold fX9_keep at h
  refine G_sub (lv' := [(0, .ref o)]) [0] rfl ?_
  refine G_aload_n (pc' := 1) C dX9_keep_0 0 rfl rfl ?_
  refine G_get (pc' := 4) (k := 1) C fi_X9 dX9_keep_1 tw_fl_X9_17 rfl (by decide) (CB_rd 0 rfl) rfl rfl ?_
  refine G_aload_n (pc' := 5) C dX9_keep_4 0 rfl rfl ?_
  refine G_get (pc' := 8) (k := 2) C fi_X9 dX9_keep_5 tw_fl_X9_21 rfl (by decide) (CB_rd 0 rfl) rfl rfl ?_
  replace h := ob h
  obtain ⟨q1, hq1, h⟩ := h
  refine G_cS0 (pc' := 11) C dX9_keep_8 (tX9_bring_2_3 κ l o z  q1 hq1) (wS tw_ml_X9_306 tw_st_X9_bring tw_co_X9_bring tw_in_X9) yd_X9_bring rfl rfl rfl (by decide) rfl (Nat.le_of_ble_eq_true rfl) rfl rfl ?_
  refine G_aload_n (pc' := 12) C dX9_keep_11 0 rfl rfl ?_
  refine G_iconst (pc' := 13) (v := (1 : Int32)) C dX9_keep_12 (by decide) rfl ?_
  refine G_put (pc' := 16) (k := 12) C fi_X9 dX9_keep_13 tw_fl_X9_82 rfl (by decide) rfl rfl rfl (Nat.le_of_ble_eq_true rfl) (CB_rd 0 rfl) (CB_wr (cI q1 0 (1 : Int32)) 0 (by decide) rfl rfl) rfl ?_
  refine G_aload_n (pc' := 17) C dX9_keep_16 0 rfl rfl ?_
  replace h := ob h
  obtain ⟨q2, hq2, h⟩ := h
  refine G_cV0 (pc' := 20) C dX9_keep_17 (tX9_howManyTasks κ l o (cI q1 0 (1 : Int32))  q2 hq2) (wV tw_ml_X9_310 tw_im_X9_howManyTasks tw_se_X9_X9_howManyTasks tw_in_X9 tw_co_X9_howManyTasks) yd_X9_howManyTasks rfl fi_X9 (CB_rd 0 rfl) rfl rfl (by decide) rfl (Nat.le_of_ble_eq_true rfl) rfl rfl ?_
  refine G_widen (k := rmX9_keep.cells) (n := rmX9_keep.slots) (by decide) (by decide) ?_
  obtain rfl := Option.some.inj h
  exact G_iret C dX9_keep_20 (fun _ h => h)
abbrev rmX9_bring_3_2 : Room := { frames := 0, cells := 0, slots := 0, locals := 0 }
def fX9_bring_3_2_L2 (o : Nat) (z : CS) (l2 : Int32) : Option ((Int32 × CS) ⊕ CS) :=
  if (8 : Int32) ≤ l2 then
    some (.inr z)
  else
    (aQ 8 (z.2.2.1 2) l2).bind fun v1 =>
    (stQT z 1 l2 v1).bind fun z2 =>
    some (.inl ((l2 + (1 : Int32)), z2))
def fX9_bring_3_2 (o : Nat) (z : CS) : Option (CS) :=
  (lpN (fun u => fX9_bring_3_2_L2 o u.2 u.1) bigN ((0 : Int32), z)).bind fun e3 =>
  some e3
set_option maxHeartbeats 4000000 in
set_option maxRecDepth 100000 in
theorem tX9_bring_3_2_L2 {κ : KK} {p : Program} {l : Launch} {e : Env} {s : State} {m : MethodId} {args : Array Value} {below : List Frame} {meth : Method} {c : Code} (C : Cx κ p s m args meth c cX9_bring 3 RX9 none) {o : Nat} {v : Option Value} {B' : Heap → Prop} {z : CS} {l2 : Int32} {y : (Int32 × CS) ⊕ CS} (h : fX9_bring_3_2_L2 o z l2 = some y) (kc : ∀ u, y = .inl u → GC κ p l e s m args below meth c rmX9_bring_3_2 3 o v B' 0 0 u.2 2 [(0, .ref (o + 3)), (1, .ref (o + 2)), (2, .int u.1)] []) (kx : ∀ w, y = .inr w → GC κ p l e s m args below meth c rmX9_bring_3_2 3 o v B' 0 0 w 20 [] []) : GC κ p l e s m args below meth c rmX9_bring_3_2 3 o v B' 0 0 z 2 [(0, .ref (o + 3)), (1, .ref (o + 2)), (2, .int l2)] [] := by
  unfold fX9_bring_3_2_L2 at h
  refine G_iload_n (pc' := 3) C dX9_bring_2 2 rfl rfl ?_
  refine G_bipush (pc' := 5) (v := (8 : Int32)) C dX9_bring_3 (by decide) rfl ?_
  refine G_icmp_ge (tgt := 20) (pc' := 8) C dX9_bring_5 (by decide) rfl (fun hc => ?_) (fun hc => ?_)
  · replace h := z_ip hc h
    exact G_sub (lv' := []) [] rfl (kx _ (Option.some.inj h).symm)
  · replace h := z_in hc h
    refine G_aload_n (pc' := 9) C dX9_bring_8 1 rfl rfl ?_
    refine G_iload_n (pc' := 10) C dX9_bring_9 2 rfl rfl ?_
    refine G_aload_n (pc' := 11) C dX9_bring_10 0 rfl rfl ?_
    refine G_iload_n (pc' := 12) C dX9_bring_11 2 rfl rfl ?_
    replace h := ob h
    obtain ⟨v1, hv1, h⟩ := h
    refine G_aald5V (pc' := 13) C dX9_bring_12 (CB_rd 3 rfl) hv1 rfl ?_
    replace h := ob h
    obtain ⟨z2, hz2, h⟩ := h
    refine C_q_places (pc' := 14) (x := v1) C dX9_bring_13 hz2 rfl ?_
    refine G_iinc (pc' := 17) C dX9_bring_14 2 rfl rfl [(2, .int (l2 + (1 : Int32))), (0, .ref (o + 3)), (1, .ref (o + 2))] (by decide) rfl rfl ?_
    refine G_goto (tgt := 2) C dX9_bring_17 (by decide) ?_
    exact G_sub (lv' := [(0, .ref (o + 3)), (1, .ref (o + 2)), (2, .int (l2 + (1 : Int32)))]) [1, 2, 0] rfl (kc ((l2 + (1 : Int32)), z2) (Option.some.inj h).symm)
set_option maxHeartbeats 4000000 in
set_option maxRecDepth 100000 in
theorem tX9_bring_3_2 (κ : KK) (l : Launch) (o : Nat) (z : CS) (q : CS) (h : fX9_bring_3_2 o z = some q) : MM κ l yX9_bring cX9_bring 3 none rmX9_bring_3_2 (CA o) [.ref (o + 3), .ref (o + 2)] (CB κ o z) none (CB κ o q) := by
  refine MM.of (by decide +kernel) (Nat.le_of_ble_eq_true rfl) ?_
  intro p e s m below meth c C hnm
  unfold fX9_bring_3_2 at h
  refine G_sub (lv' := [(0, .ref (o + 3)), (1, .ref (o + 2))]) [0, 1] rfl ?_
  refine G_iconst (pc' := 1) (v := (0 : Int32)) C dX9_bring_0 (by decide) rfl ?_
  refine G_istore_n (pc' := 2) C dX9_bring_1 [(2, .int (0 : Int32)), (0, .ref (o + 3)), (1, .ref (o + 2))] (by decide) rfl rfl ?_
  replace h := ob h
  obtain ⟨e3, hle3, h⟩ := h
  refine G_sub (lv' := [(0, .ref (o + 3)), (1, .ref (o + 2)), (2, .int (0 : Int32))]) [1, 2, 0] rfl ?_
  refine lpN_ind (body := fun u => fX9_bring_3_2_L2 o u.2 u.1) (P := fun u => GC κ p l e s m ([.ref (o + 3), .ref (o + 2)] : List Value).toArray below meth c rmX9_bring_3_2 3 o none (CB κ o q) 0 0 u.2 2 [(0, .ref (o + 3)), (1, .ref (o + 2)), (2, .int u.1)] []) (X := fun w => GC κ p l e s m ([.ref (o + 3), .ref (o + 2)] : List Value).toArray below meth c rmX9_bring_3_2 3 o none (CB κ o q) 0 0 w 20 [] []) (fun u y hb kc kx => tX9_bring_3_2_L2 C hb kc kx) _ _ _ hle3 ?_
  refine G_widen (k := rmX9_bring_3_2.cells) (n := rmX9_bring_3_2.slots) (by decide) (by decide) ?_
  obtain rfl := Option.some.inj h
  exact G_vret C dX9_bring_20 (fun _ h => h)
theorem dX9_back_0 : decode cX9_back 0 = .ok (.aload_n 0, 1) := by decide +kernel
theorem dX9_back_1 : decode cX9_back 1 = .ok (.getfield 82, 3) := by decide +kernel
theorem dX9_back_4 : decode cX9_back 4 = .ok (.ifCond .ne 10, 3) := by decide +kernel
theorem dX9_back_7 : decode cX9_back 7 = .ok (.aload_n 0, 1) := by decide +kernel
theorem dX9_back_8 : decode cX9_back 8 = .ok (.bipush (-10), 2) := by decide +kernel
theorem dX9_back_10 : decode cX9_back 10 = .ok (.invokevirtual 103, 3) := by decide +kernel
theorem dX9_back_13 : decode cX9_back 13 = .ok (.ireturn, 1) := by decide +kernel
theorem dX9_back_14 : decode cX9_back 14 = .ok (.aload_n 0, 1) := by decide +kernel
theorem dX9_back_15 : decode cX9_back 15 = .ok (.getfield 21, 3) := by decide +kernel
theorem dX9_back_18 : decode cX9_back 18 = .ok (.aload_n 0, 1) := by decide +kernel
theorem dX9_back_19 : decode cX9_back 19 = .ok (.getfield 17, 3) := by decide +kernel
theorem dX9_back_22 : decode cX9_back 22 = .ok (.invokestatic 306, 3) := by decide +kernel
theorem dX9_back_25 : decode cX9_back 25 = .ok (.aload_n 0, 1) := by decide +kernel
theorem dX9_back_26 : decode cX9_back 26 = .ok (.invokevirtual 310, 3) := by decide +kernel
theorem dX9_back_29 : decode cX9_back 29 = .ok (.ireturn, 1) := by decide +kernel
theorem yd_X9_back : yX9_back.cls = RX9 ∧ yX9_back.cls ≠ "java/lang/invoke/MethodHandle" ∧ yX9_back.cls ≠ "java/lang/invoke/VarHandle" ∧ (parseMethodDescriptor yX9_back.desc).map (fun d => d.parameters.length) = some 0 := by decide +kernel
abbrev rmX9_back : Room := { frames := 1, cells := 0, slots := 0, locals := 22 }
def fX9_back (o : Nat) (z : CS) : Option (Int32 × CS) :=
  if (z.1 0) = 0 then
    (fX9_counted o z (-10 : Int32)).bind fun q3 =>
    some (q3.1, q3.2)
  else
    (fX9_bring_3_2 o z ).bind fun q1 =>
    (fX9_howManyTasks o q1 ).bind fun q2 =>
    some (q2, q1)
set_option maxHeartbeats 4000000 in
set_option maxRecDepth 100000 in
theorem tX9_back (κ : KK) (l : Launch) (o : Nat) (z : CS) (q : Int32 × CS) (h : fX9_back o z = some q) : MM κ l yX9_back cX9_back 1 (some .int) rmX9_back (CA o) [.ref o] (CB κ o z) (some (Value.int q.1)) (CB κ o q.2) := by
  refine MM.of (by decide +kernel) (Nat.le_of_ble_eq_true rfl) ?_
  intro p e s m below meth c C hnm
  unfold fX9_back at h
  refine G_sub (lv' := [(0, .ref o)]) [0] rfl ?_
  refine G_aload_n (pc' := 1) C dX9_back_0 0 rfl rfl ?_
  refine G_get (pc' := 4) (k := 12) C fi_X9 dX9_back_1 tw_fl_X9_82 rfl (by decide) (CB_rd 0 rfl) rfl rfl ?_
  refine G_if_ne (tgt := 14) (pc' := 7) C dX9_back_4 (by decide) rfl (fun hc => ?_) (fun hc => ?_)
  · replace h := z_in hc h
    refine G_aload_n (pc' := 15) C dX9_back_14 0 rfl rfl ?_
    refine G_get (pc' := 18) (k := 2) C fi_X9 dX9_back_15 tw_fl_X9_21 rfl (by decide) (CB_rd 0 rfl) rfl rfl ?_
    refine G_aload_n (pc' := 19) C dX9_back_18 0 rfl rfl ?_
    refine G_get (pc' := 22) (k := 1) C fi_X9 dX9_back_19 tw_fl_X9_17 rfl (by decide) (CB_rd 0 rfl) rfl rfl ?_
    replace h := ob h
    obtain ⟨q1, hq1, h⟩ := h
    refine G_cS0 (pc' := 25) C dX9_back_22 (tX9_bring_3_2 κ l o z  q1 hq1) (wS tw_ml_X9_306 tw_st_X9_bring tw_co_X9_bring tw_in_X9) yd_X9_bring rfl rfl rfl (by decide) rfl (Nat.le_of_ble_eq_true rfl) rfl rfl ?_
    refine G_aload_n (pc' := 26) C dX9_back_25 0 rfl rfl ?_
    replace h := ob h
    obtain ⟨q2, hq2, h⟩ := h
    refine G_cV0 (pc' := 29) C dX9_back_26 (tX9_howManyTasks κ l o q1  q2 hq2) (wV tw_ml_X9_310 tw_im_X9_howManyTasks tw_se_X9_X9_howManyTasks tw_in_X9 tw_co_X9_howManyTasks) yd_X9_howManyTasks rfl fi_X9 (CB_rd 0 rfl) rfl rfl (by decide) rfl (Nat.le_of_ble_eq_true rfl) rfl rfl ?_
    refine G_widen (k := rmX9_back.cells) (n := rmX9_back.slots) (by decide) (by decide) ?_
    obtain rfl := Option.some.inj h
    exact G_iret C dX9_back_29 (fun _ h => h)
  · replace h := z_ip hc h
    refine G_aload_n (pc' := 8) C dX9_back_7 0 rfl rfl ?_
    refine G_bipush (pc' := 10) (v := (-10 : Int32)) C dX9_back_8 (by decide) rfl ?_
    replace h := ob h
    obtain ⟨q3, hq3, h⟩ := h
    refine G_cV0 (pc' := 13) C dX9_back_10 (tX9_counted κ l o z (-10 : Int32) q3 hq3) (wV tw_ml_X9_103 tw_im_X9_counted tw_se_X9_X9_counted tw_in_X9 tw_co_X9_counted) yd_X9_counted rfl fi_X9 (CB_rd 0 rfl) rfl rfl (by decide) rfl (Nat.le_of_ble_eq_true rfl) rfl rfl ?_
    refine G_widen (k := rmX9_back.cells) (n := rmX9_back.slots) (by decide) (by decide) ?_
    obtain rfl := Option.some.inj h
    exact G_iret C dX9_back_13 (fun _ h => h)
theorem dX9_count_0 : decode cX9_count 0 = .ok (.iload_n 1, 1) := by decide +kernel
theorem dX9_count_1 : decode cX9_count 1 = .ok (.tableswitch 66 0 4 #[35, 40, 45, 53, 61], 35) := by decide +kernel
theorem dX9_count_36 : decode cX9_count 36 = .ok (.aload_n 0, 1) := by decide +kernel
theorem dX9_count_37 : decode cX9_count 37 = .ok (.invokevirtual 310, 3) := by decide +kernel
theorem dX9_count_40 : decode cX9_count 40 = .ok (.ireturn, 1) := by decide +kernel
theorem dX9_count_41 : decode cX9_count 41 = .ok (.aload_n 0, 1) := by decide +kernel
theorem dX9_count_42 : decode cX9_count 42 = .ok (.getfield 86, 3) := by decide +kernel
theorem dX9_count_45 : decode cX9_count 45 = .ok (.ireturn, 1) := by decide +kernel
theorem dX9_count_46 : decode cX9_count 46 = .ok (.aload_n 0, 1) := by decide +kernel
theorem dX9_count_47 : decode cX9_count 47 = .ok (.getfield 40, 3) := by decide +kernel
theorem dX9_count_50 : decode cX9_count 50 = .ok (.getfield 235, 3) := by decide +kernel
theorem dX9_count_53 : decode cX9_count 53 = .ok (.ireturn, 1) := by decide +kernel
theorem dX9_count_54 : decode cX9_count 54 = .ok (.aload_n 0, 1) := by decide +kernel
theorem dX9_count_55 : decode cX9_count 55 = .ok (.getfield 64, 3) := by decide +kernel
theorem dX9_count_58 : decode cX9_count 58 = .ok (.getfield 291, 3) := by decide +kernel
theorem dX9_count_61 : decode cX9_count 61 = .ok (.ireturn, 1) := by decide +kernel
theorem dX9_count_62 : decode cX9_count 62 = .ok (.aload_n 0, 1) := by decide +kernel
theorem dX9_count_63 : decode cX9_count 63 = .ok (.getfield 93, 3) := by decide +kernel
theorem dX9_count_66 : decode cX9_count 66 = .ok (.ireturn, 1) := by decide +kernel
theorem dX9_count_67 : decode cX9_count 67 = .ok (.bipush (-2), 2) := by decide +kernel
theorem dX9_count_69 : decode cX9_count 69 = .ok (.ireturn, 1) := by decide +kernel
theorem yd_X9_count : yX9_count.cls = RX9 ∧ yX9_count.cls ≠ "java/lang/invoke/MethodHandle" ∧ yX9_count.cls ≠ "java/lang/invoke/VarHandle" ∧ (parseMethodDescriptor yX9_count.desc).map (fun d => d.parameters.length) = some 1 := by decide +kernel
abbrev rmX9_count : Room := { frames := 1, cells := 0, slots := 0, locals := 22 }
def fX9_count (o : Nat) (z : CS) (a1 : Int32) : Option (Int32) :=
  if a1 = (0 : Int32) then
    (fX9_howManyTasks o z ).bind fun q1 =>
    some q1
  else
  if a1 = (1 : Int32) then
    some (z.1 1)
  else
  if a1 = (2 : Int32) then
    some (z.1 6)
  else
  if a1 = (3 : Int32) then
    some (z.1 9)
  else
  if a1 = (4 : Int32) then
    some (z.1 3)
  else
    some (-2 : Int32)
set_option maxHeartbeats 4000000 in
set_option maxRecDepth 100000 in
theorem tX9_count (κ : KK) (l : Launch) (o : Nat) (z : CS) (a1 : Int32) (q : Int32) (h : fX9_count o z a1 = some q) : MM κ l yX9_count cX9_count 2 (some .int) rmX9_count (CA o) [.ref o, .int a1] (CB κ o z) (some (Value.int q)) (CB κ o z) := by
  refine MM.of (by decide +kernel) (Nat.le_of_ble_eq_true rfl) ?_
  intro p e s m below meth c C hnm
  unfold fX9_count at h
  refine G_sub (lv' := [(0, .ref o), (1, .int a1)]) [0, 1] rfl ?_
  refine G_iload_n (pc' := 1) C dX9_count_0 1 rfl rfl ?_
  by_cases hc0 : a1 = (0 : Int32)
  · replace h := z_ip hc0 h
    refine G_tabIn (tgt := 36) C dX9_count_1 (by rw [hc0]; decide) (by rw [hc0]; decide) (by rw [hc0]; rfl) (by decide) ?_
    refine G_aload_n (pc' := 37) C dX9_count_36 0 rfl rfl ?_
    replace h := ob h
    obtain ⟨q1, hq1, h⟩ := h
    refine G_cV0 (pc' := 40) C dX9_count_37 (tX9_howManyTasks κ l o z  q1 hq1) (wV tw_ml_X9_310 tw_im_X9_howManyTasks tw_se_X9_X9_howManyTasks tw_in_X9 tw_co_X9_howManyTasks) yd_X9_howManyTasks rfl fi_X9 (CB_rd 0 rfl) rfl rfl (by decide) rfl (Nat.le_of_ble_eq_true rfl) rfl rfl ?_
    obtain rfl := Option.some.inj h
    exact G_iret C dX9_count_40 (fun _ h => h)
  replace h := z_in hc0 h
  by_cases hc1 : a1 = (1 : Int32)
  · replace h := z_ip hc1 h
    refine G_tabIn (tgt := 41) C dX9_count_1 (by rw [hc1]; decide) (by rw [hc1]; decide) (by rw [hc1]; rfl) (by decide) ?_
    refine G_aload_n (pc' := 42) C dX9_count_41 0 rfl rfl ?_
    refine G_get (pc' := 45) (k := 13) C fi_X9 dX9_count_42 tw_fl_X9_86 rfl (by decide) (CB_rd 0 rfl) rfl rfl ?_
    obtain rfl := Option.some.inj h
    exact G_iret C dX9_count_45 (fun _ h => h)
  replace h := z_in hc1 h
  by_cases hc2 : a1 = (2 : Int32)
  · replace h := z_ip hc2 h
    refine G_tabIn (tgt := 46) C dX9_count_1 (by rw [hc2]; decide) (by rw [hc2]; decide) (by rw [hc2]; rfl) (by decide) ?_
    refine G_aload_n (pc' := 47) C dX9_count_46 0 rfl rfl ?_
    refine G_get (pc' := 50) (k := 5) C fi_X9 dX9_count_47 tw_fl_X9_40 rfl (by decide) (CB_rd 0 rfl) rfl rfl ?_
    refine G_get (pc' := 53) (k := 3) C fi_X5 dX9_count_50 tw_fl_X9_235 rfl (by decide) (CB_rd 8 rfl) rfl rfl ?_
    obtain rfl := Option.some.inj h
    exact G_iret C dX9_count_53 (fun _ h => h)
  replace h := z_in hc2 h
  by_cases hc3 : a1 = (3 : Int32)
  · replace h := z_ip hc3 h
    refine G_tabIn (tgt := 54) C dX9_count_1 (by rw [hc3]; decide) (by rw [hc3]; decide) (by rw [hc3]; rfl) (by decide) ?_
    refine G_aload_n (pc' := 55) C dX9_count_54 0 rfl rfl ?_
    refine G_get (pc' := 58) (k := 9) C fi_X9 dX9_count_55 tw_fl_X9_64 rfl (by decide) (CB_rd 0 rfl) rfl rfl ?_
    refine G_get (pc' := 61) (k := 1) C fi_X2 dX9_count_58 tw_fl_X9_291 rfl (by decide) (CB_rd 22 rfl) rfl rfl ?_
    obtain rfl := Option.some.inj h
    exact G_iret C dX9_count_61 (fun _ h => h)
  replace h := z_in hc3 h
  by_cases hc4 : a1 = (4 : Int32)
  · replace h := z_ip hc4 h
    refine G_tabIn (tgt := 62) C dX9_count_1 (by rw [hc4]; decide) (by rw [hc4]; decide) (by rw [hc4]; rfl) (by decide) ?_
    refine G_aload_n (pc' := 63) C dX9_count_62 0 rfl rfl ?_
    refine G_get (pc' := 66) (k := 15) C fi_X9 dX9_count_63 tw_fl_X9_93 rfl (by decide) (CB_rd 0 rfl) rfl rfl ?_
    obtain rfl := Option.some.inj h
    exact G_iret C dX9_count_66 (fun _ h => h)
  replace h := z_in hc4 h
  refine G_tabOut (tgt := 67) C dX9_count_1 (z_out0_4 hc0 hc1 hc2 hc3 hc4) (by decide) ?_
  refine G_bipush (pc' := 69) (v := (-2 : Int32)) C dX9_count_67 (by decide) rfl ?_
  obtain rfl := Option.some.inj h
  exact G_iret C dX9_count_69 (fun _ h => h)
