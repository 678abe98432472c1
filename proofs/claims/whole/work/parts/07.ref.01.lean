theorem dX10_meet_0 : decode cX10_meet 0 = .ok (.aload_n 0, 1) := by decide +kernel
theorem dX10_meet_1 : decode cX10_meet 1 = .ok (.dup, 1) := by decide +kernel
theorem dX10_meet_2 : decode cX10_meet 2 = .ok (.getfield 112, 3) := by decide +kernel
theorem dX10_meet_5 : decode cX10_meet 5 = .ok (.iload_n 1, 1) := by decide +kernel
theorem dX10_meet_6 : decode cX10_meet 6 = .ok (.bipush (-10), 2) := by decide +kernel
theorem dX10_meet_8 : decode cX10_meet 8 = .ok (.if_icmp .gt 7, 3) := by decide +kernel
theorem dX10_meet_11 : decode cX10_meet 11 = .ok (.iconst 1, 1) := by decide +kernel
theorem dX10_meet_12 : decode cX10_meet 12 = .ok (.goto 4, 3) := by decide +kernel
theorem dX10_meet_15 : decode cX10_meet 15 = .ok (.iconst 0, 1) := by decide +kernel
theorem dX10_meet_16 : decode cX10_meet 16 = .ok (.iadd, 1) := by decide +kernel
theorem dX10_meet_17 : decode cX10_meet 17 = .ok (.putfield 112, 3) := by decide +kernel
theorem dX10_meet_20 : decode cX10_meet 20 = .ok (.iload_n 1, 1) := by decide +kernel
theorem dX10_meet_21 : decode cX10_meet 21 = .ok (.ireturn, 1) := by decide +kernel
abbrev rmX10_meet : Room := { frames := 0, cells := 0, slots := 0, locals := 0 }
theorem yd_X10_meet : yX10_meet.cls = RX10 ∧ yX10_meet.cls ≠ "java/lang/invoke/MethodHandle" ∧ yX10_meet.cls ≠ "java/lang/invoke/VarHandle" ∧ (parseMethodDescriptor yX10_meet.desc).map (fun d => d.parameters.length) = some 1 := by decide +kernel
def fX10_meet_J16 (r : RS) (l1 : Int32) (s0 : Int32) (s1 : Int32) : Option (Int32 × RS) :=
  some (l1, (rI r 2 (s1 + s0)))
def fX10_meet (r : RS) (a1 : Int32) : Option (Int32 × RS) :=
  if (-10 : Int32) < a1 then
    fX10_meet_J16 r a1 (0 : Int32) (r.1 2)
  else
    fX10_meet_J16 r a1 (1 : Int32) (r.1 2)
set_option maxHeartbeats 4000000 in
set_option maxRecDepth 100000 in
theorem tX10_meet (κ : KK) (l : Launch) (o : Nat) (r : RS) (a1 : Int32) (q : Int32 × RS) (h : fX10_meet r a1 = some q) : MM κ l yX10_meet cX10_meet 2 (some .int) rmX10_meet (RA o) [.ref o, .int a1] (RB κ o r) (some (Value.int q.1)) (RB κ o q.2) := by
  refine MM.of (by decide +kernel) (Nat.le_of_ble_eq_true rfl) ?_
  intro p e s m below meth c C hnm
  have J16 : ∀ (r : RS) (l1 : Int32) (s0 : Int32) (s1 : Int32), fX10_meet_J16 r l1 s0 s1 = some q → GR κ p l e s m ([.ref o, .int a1] : List Value).toArray below meth c rmX10_meet 2 o (some (Value.int q.1)) (RB κ o q.2) r 16 [(1, .int l1)] [.int s0, .int s1, .ref o] := by
    intro r l1 s0 s1 h
    unfold fX10_meet_J16 at h
    refine G_iadd (pc' := 17) C dX10_meet_16 rfl ?_
    refine R_p_met (pc' := 20) C dX10_meet_17 rfl ?_
    refine G_iload_n (pc' := 21) C dX10_meet_20 0 rfl rfl ?_
    obtain rfl := Option.some.inj h
    exact G_iret C dX10_meet_21 (fun _ h => h)
  unfold fX10_meet at h
  refine G_sub (lv' := [(0, .ref o), (1, .int a1)]) [0, 1] rfl ?_
  refine G_aload_n (pc' := 1) C dX10_meet_0 0 rfl rfl ?_
  refine G_dup (pc' := 2) C dX10_meet_1 rfl rfl ?_
  refine R_g_met (pc' := 5) C dX10_meet_2 rfl ?_
  refine G_iload_n (pc' := 6) C dX10_meet_5 1 rfl rfl ?_
  refine G_bipush (pc' := 8) (v := (-10 : Int32)) C dX10_meet_6 (by decide) rfl ?_
  refine G_icmp_gt (tgt := 15) (pc' := 11) C dX10_meet_8 (by decide) rfl (fun hc => ?_) (fun hc => ?_)
  · replace h := z_ip hc h
    refine G_iconst (pc' := 16) (v := (0 : Int32)) C dX10_meet_15 (by decide) rfl ?_
    exact G_sub [1] rfl (J16 r a1 (0 : Int32) (r.1 2) h)
  · replace h := z_in hc h
    refine G_iconst (pc' := 12) (v := (1 : Int32)) C dX10_meet_11 (by decide) rfl ?_
    refine G_goto (tgt := 16) C dX10_meet_12 (by decide) ?_
    exact G_sub [1] rfl (J16 r a1 (1 : Int32) (r.1 2) h)
theorem dX10_isPlace_0 : decode cX10_isPlace 0 = .ok (.iload_n 0, 1) := by decide +kernel
theorem dX10_isPlace_1 : decode cX10_isPlace 1 = .ok (.ifCond .lt 13, 3) := by decide +kernel
theorem dX10_isPlace_4 : decode cX10_isPlace 4 = .ok (.iload_n 0, 1) := by decide +kernel
theorem dX10_isPlace_5 : decode cX10_isPlace 5 = .ok (.bipush 8, 2) := by decide +kernel
theorem dX10_isPlace_7 : decode cX10_isPlace 7 = .ok (.if_icmp .ge 7, 3) := by decide +kernel
theorem dX10_isPlace_10 : decode cX10_isPlace 10 = .ok (.iconst 1, 1) := by decide +kernel
theorem dX10_isPlace_11 : decode cX10_isPlace 11 = .ok (.goto 4, 3) := by decide +kernel
theorem dX10_isPlace_14 : decode cX10_isPlace 14 = .ok (.iconst 0, 1) := by decide +kernel
theorem dX10_isPlace_15 : decode cX10_isPlace 15 = .ok (.ireturn, 1) := by decide +kernel
abbrev rmX10_isPlace : Room := { frames := 0, cells := 0, slots := 0, locals := 0 }
theorem yd_X10_isPlace : yX10_isPlace.cls ≠ "java/lang/invoke/MethodHandle" ∧ yX10_isPlace.cls ≠ "java/lang/invoke/VarHandle" ∧ (parseMethodDescriptor yX10_isPlace.desc).map (fun d => d.parameters.length) = some 1 := by decide +kernel
def fX10_isPlace_J14  : Option (Int32) :=
  some (0 : Int32)
def fX10_isPlace (a1 : Int32) : Option (Int32) :=
  if a1 < 0 then
    fX10_isPlace_J14 
  else
    if (8 : Int32) ≤ a1 then
      fX10_isPlace_J14 
    else
      some (1 : Int32)
set_option maxHeartbeats 4000000 in
set_option maxRecDepth 100000 in
theorem tX10_isPlace (κ : KK) (l : Launch) (A : Nat → Prop) (B : Heap → Prop) (a1 : Int32) (q : Int32) (h : fX10_isPlace a1 = some q) : MM κ l yX10_isPlace cX10_isPlace 1 (some .boolean) rmX10_isPlace A [.int a1] B (some (Value.int q)) B := by
  refine MM.of (by decide +kernel) (Nat.le_of_ble_eq_true rfl) ?_
  intro p e s m below meth c C hnm
  have J14 : fX10_isPlace_J14  = some q → GT p l e s m ([.int a1] : List Value).toArray below meth c rmX10_isPlace 1 A (some (Value.int q)) B B 14 [] [] := by
    intro  h
    unfold fX10_isPlace_J14 at h
    refine G_iconst (pc' := 15) (v := (0 : Int32)) C dX10_isPlace_14 (by decide) rfl ?_
    obtain rfl := Option.some.inj h
    exact G_zret (v := (0 : Int32)) C rfl dX10_isPlace_15 (fun _ h => h)
  unfold fX10_isPlace at h
  refine G_sub (lv' := [(0, .int a1)]) [0] rfl ?_
  refine G_iload_n (pc' := 1) C dX10_isPlace_0 0 rfl rfl ?_
  refine G_if_lt (tgt := 14) (pc' := 4) C dX10_isPlace_1 (by decide) rfl (fun hc => ?_) (fun hc => ?_)
  · replace h := z_ip hc h
    exact G_sub [] rfl (J14  h)
  · replace h := z_in hc h
    refine G_iload_n (pc' := 5) C dX10_isPlace_4 0 rfl rfl ?_
    refine G_bipush (pc' := 7) (v := (8 : Int32)) C dX10_isPlace_5 (by decide) rfl ?_
    refine G_icmp_ge (tgt := 14) (pc' := 10) C dX10_isPlace_7 (by decide) rfl (fun hc => ?_) (fun hc => ?_)
    · replace h := z_ip hc h
      exact G_sub [] rfl (J14  h)
    · replace h := z_in hc h
      refine G_iconst (pc' := 11) (v := (1 : Int32)) C dX10_isPlace_10 (by decide) rfl ?_
      refine G_goto (tgt := 15) C dX10_isPlace_11 (by decide) ?_
      obtain rfl := Option.some.inj h
      exact G_zret (v := (1 : Int32)) C rfl dX10_isPlace_15 (fun _ h => h)
theorem dX10_isSheet_0 : decode cX10_isSheet 0 = .ok (.iload_n 0, 1) := by decide +kernel
theorem dX10_isSheet_1 : decode cX10_isSheet 1 = .ok (.ifCond .lt 13, 3) := by decide +kernel
theorem dX10_isSheet_4 : decode cX10_isSheet 4 = .ok (.iload_n 0, 1) := by decide +kernel
theorem dX10_isSheet_5 : decode cX10_isSheet 5 = .ok (.bipush 6, 2) := by decide +kernel
theorem dX10_isSheet_7 : decode cX10_isSheet 7 = .ok (.if_icmp .ge 7, 3) := by decide +kernel
theorem dX10_isSheet_10 : decode cX10_isSheet 10 = .ok (.iconst 1, 1) := by decide +kernel
theorem dX10_isSheet_11 : decode cX10_isSheet 11 = .ok (.goto 4, 3) := by decide +kernel
theorem dX10_isSheet_14 : decode cX10_isSheet 14 = .ok (.iconst 0, 1) := by decide +kernel
theorem dX10_isSheet_15 : decode cX10_isSheet 15 = .ok (.ireturn, 1) := by decide +kernel
abbrev rmX10_isSheet : Room := { frames := 0, cells := 0, slots := 0, locals := 0 }
theorem yd_X10_isSheet : yX10_isSheet.cls ≠ "java/lang/invoke/MethodHandle" ∧ yX10_isSheet.cls ≠ "java/lang/invoke/VarHandle" ∧ (parseMethodDescriptor yX10_isSheet.desc).map (fun d => d.parameters.length) = some 1 := by decide +kernel
def fX10_isSheet_J14  : Option (Int32) :=
  some (0 : Int32)
def fX10_isSheet (a1 : Int32) : Option (Int32) :=
  if a1 < 0 then
    fX10_isSheet_J14 
  else
    if (6 : Int32) ≤ a1 then
      fX10_isSheet_J14 
    else
      some (1 : Int32)
set_option maxHeartbeats 4000000 in
set_option maxRecDepth 100000 in
theorem tX10_isSheet (κ : KK) (l : Launch) (A : Nat → Prop) (B : Heap → Prop) (a1 : Int32) (q : Int32) (h : fX10_isSheet a1 = some q) : MM κ l yX10_isSheet cX10_isSheet 1 (some .boolean) rmX10_isSheet A [.int a1] B (some (Value.int q)) B := by
  refine MM.of (by decide +kernel) (Nat.le_of_ble_eq_true rfl) ?_
  intro p e s m below meth c C hnm
  have J14 : fX10_isSheet_J14  = some q → GT p l e s m ([.int a1] : List Value).toArray below meth c rmX10_isSheet 1 A (some (Value.int q)) B B 14 [] [] := by
    intro  h
    unfold fX10_isSheet_J14 at h
    refine G_iconst (pc' := 15) (v := (0 : Int32)) C dX10_isSheet_14 (by decide) rfl ?_
    obtain rfl := Option.some.inj h
    exact G_zret (v := (0 : Int32)) C rfl dX10_isSheet_15 (fun _ h => h)
  unfold fX10_isSheet at h
  refine G_sub (lv' := [(0, .int a1)]) [0] rfl ?_
  refine G_iload_n (pc' := 1) C dX10_isSheet_0 0 rfl rfl ?_
  refine G_if_lt (tgt := 14) (pc' := 4) C dX10_isSheet_1 (by decide) rfl (fun hc => ?_) (fun hc => ?_)
  · replace h := z_ip hc h
    exact G_sub [] rfl (J14  h)
  · replace h := z_in hc h
    refine G_iload_n (pc' := 5) C dX10_isSheet_4 0 rfl rfl ?_
    refine G_bipush (pc' := 7) (v := (6 : Int32)) C dX10_isSheet_5 (by decide) rfl ?_
    refine G_icmp_ge (tgt := 14) (pc' := 10) C dX10_isSheet_7 (by decide) rfl (fun hc => ?_) (fun hc => ?_)
    · replace h := z_ip hc h
      exact G_sub [] rfl (J14  h)
    · replace h := z_in hc h
      refine G_iconst (pc' := 11) (v := (1 : Int32)) C dX10_isSheet_10 (by decide) rfl ?_
      refine G_goto (tgt := 15) C dX10_isSheet_11 (by decide) ?_
      obtain rfl := Option.some.inj h
      exact G_zret (v := (1 : Int32)) C rfl dX10_isSheet_15 (fun _ h => h)
theorem dX10_say0_0 : decode cX10_say0 0 = .ok (.aload_n 0, 1) := by decide +kernel
theorem dX10_say0_1 : decode cX10_say0 1 = .ok (.getfield 19, 3) := by decide +kernel
theorem dX10_say0_4 : decode cX10_say0 4 = .ok (.sipush 256, 3) := by decide +kernel
theorem dX10_say0_7 : decode cX10_say0 7 = .ok (.iload_n 1, 1) := by decide +kernel
theorem dX10_say0_8 : decode cX10_say0 8 = .ok (.imul, 1) := by decide +kernel
theorem dX10_say0_9 : decode cX10_say0 9 = .ok (.iload_n 2, 1) := by decide +kernel
theorem dX10_say0_10 : decode cX10_say0 10 = .ok (.iadd, 1) := by decide +kernel
theorem dX10_say0_11 : decode cX10_say0 11 = .ok (.iaload, 1) := by decide +kernel
theorem dX10_say0_12 : decode cX10_say0 12 = .ok (.ireturn, 1) := by decide +kernel
abbrev rmX10_say0 : Room := { frames := 0, cells := 0, slots := 0, locals := 0 }
theorem yd_X10_say0 : yX10_say0.cls = RX10 ∧ yX10_say0.cls ≠ "java/lang/invoke/MethodHandle" ∧ yX10_say0.cls ≠ "java/lang/invoke/VarHandle" ∧ (parseMethodDescriptor yX10_say0.desc).map (fun d => d.parameters.length) = some 2 := by decide +kernel
def fX10_say0 (r : RS) (a1 : Int32) (a2 : Int32) : Option (Int32) :=
  (aI 4096 (r.2.1 3) (((256 : Int32) * a1) + a2)).bind fun v1 =>
  some v1
set_option maxHeartbeats 4000000 in
set_option maxRecDepth 100000 in
theorem tX10_say0 (κ : KK) (l : Launch) (o : Nat) (r : RS) (a1 : Int32) (a2 : Int32) (q : Int32) (h : fX10_say0 r a1 a2 = some q) : MM κ l yX10_say0 cX10_say0 3 (some .int) rmX10_say0 (RA o) [.ref o, .int a1, .int a2] (RB κ o r) (some (Value.int q)) (RB κ o r) := by
  refine MM.of (by decide +kernel) (Nat.le_of_ble_eq_true rfl) ?_
  intro p e s m below meth c C hnm
  unfold fX10_say0 at h
  refine G_sub (lv' := [(0, .ref o), (1, .int a1), (2, .int a2)]) [0, 1, 2] rfl ?_
  refine G_aload_n (pc' := 1) C dX10_say0_0 0 rfl rfl ?_
  refine R_g_says (pc' := 4) C dX10_say0_1 rfl ?_
  refine G_sipush (pc' := 7) (v := (256 : Int32)) C dX10_say0_4 (by decide) rfl ?_
  refine G_iload_n (pc' := 8) C dX10_say0_7 1 rfl rfl ?_
  refine G_imul (pc' := 9) C dX10_say0_8 rfl ?_
  refine G_iload_n (pc' := 10) C dX10_say0_9 2 rfl rfl ?_
  refine G_iadd (pc' := 11) C dX10_say0_10 rfl ?_
  obtain ⟨v1, hv1, h⟩ := ob h
  refine R_l_says (pc' := 12) C dX10_say0_11 hv1 rfl ?_
  obtain rfl := Option.some.inj h
  exact G_iret C dX10_say0_12 (fun _ h => h)
theorem dX10_inputs_0 : decode cX10_inputs 0 = .ok (.iconst 1, 1) := by decide +kernel
theorem dX10_inputs_1 : decode cX10_inputs 1 = .ok (.aload_n 0, 1) := by decide +kernel
theorem dX10_inputs_2 : decode cX10_inputs 2 = .ok (.getfield 7, 3) := by decide +kernel
theorem dX10_inputs_5 : decode cX10_inputs 5 = .ok (.iload_n 1, 1) := by decide +kernel
theorem dX10_inputs_6 : decode cX10_inputs 6 = .ok (.iaload, 1) := by decide +kernel
theorem dX10_inputs_7 : decode cX10_inputs 7 = .ok (.ishl, 1) := by decide +kernel
theorem dX10_inputs_8 : decode cX10_inputs 8 = .ok (.ireturn, 1) := by decide +kernel
abbrev rmX10_inputs : Room := { frames := 0, cells := 0, slots := 0, locals := 0 }
theorem yd_X10_inputs : yX10_inputs.cls = RX10 ∧ yX10_inputs.cls ≠ "java/lang/invoke/MethodHandle" ∧ yX10_inputs.cls ≠ "java/lang/invoke/VarHandle" ∧ (parseMethodDescriptor yX10_inputs.desc).map (fun d => d.parameters.length) = some 1 := by decide +kernel
def fX10_inputs (r : RS) (a1 : Int32) : Option (Int32) :=
  (aI 16 (r.2.1 0) a1).bind fun v1 =>
  some ((1 : Int32) <<< (v1 &&& 31))
set_option maxHeartbeats 4000000 in
set_option maxRecDepth 100000 in
theorem tX10_inputs (κ : KK) (l : Launch) (o : Nat) (r : RS) (a1 : Int32) (q : Int32) (h : fX10_inputs r a1 = some q) : MM κ l yX10_inputs cX10_inputs 2 (some .int) rmX10_inputs (RA o) [.ref o, .int a1] (RB κ o r) (some (Value.int q)) (RB κ o r) := by
  refine MM.of (by decide +kernel) (Nat.le_of_ble_eq_true rfl) ?_
  intro p e s m below meth c C hnm
  unfold fX10_inputs at h
  refine G_sub (lv' := [(0, .ref o), (1, .int a1)]) [0, 1] rfl ?_
  refine G_iconst (pc' := 1) (v := (1 : Int32)) C dX10_inputs_0 (by decide) rfl ?_
  refine G_aload_n (pc' := 2) C dX10_inputs_1 0 rfl rfl ?_
  refine R_g_bits (pc' := 5) C dX10_inputs_2 rfl ?_
  refine G_iload_n (pc' := 6) C dX10_inputs_5 1 rfl rfl ?_
  obtain ⟨v1, hv1, h⟩ := ob h
  refine R_l_bits (pc' := 7) C dX10_inputs_6 hv1 rfl ?_
  refine G_ishl (pc' := 8) C dX10_inputs_7 rfl ?_
  obtain rfl := Option.some.inj h
  exact G_iret C dX10_inputs_8 (fun _ h => h)
theorem dX10_askPlace_0 : decode cX10_askPlace 0 = .ok (.iload_n 1, 1) := by decide +kernel
theorem dX10_askPlace_1 : decode cX10_askPlace 1 = .ok (.invokestatic 115, 3) := by decide +kernel
theorem dX10_askPlace_4 : decode cX10_askPlace 4 = .ok (.ifCond .ne 8, 3) := by decide +kernel
theorem dX10_askPlace_7 : decode cX10_askPlace 7 = .ok (.bipush (-2), 2) := by decide +kernel
theorem dX10_askPlace_9 : decode cX10_askPlace 9 = .ok (.goto 18, 3) := by decide +kernel
theorem dX10_askPlace_12 : decode cX10_askPlace 12 = .ok (.aload_n 0, 1) := by decide +kernel
theorem dX10_askPlace_13 : decode cX10_askPlace 13 = .ok (.getfield 7, 3) := by decide +kernel
theorem dX10_askPlace_16 : decode cX10_askPlace 16 = .ok (.iload_n 1, 1) := by decide +kernel
theorem dX10_askPlace_17 : decode cX10_askPlace 17 = .ok (.iaload, 1) := by decide +kernel
theorem dX10_askPlace_18 : decode cX10_askPlace 18 = .ok (.ifCond .ne 8, 3) := by decide +kernel
theorem dX10_askPlace_21 : decode cX10_askPlace 21 = .ok (.bipush (-10), 2) := by decide +kernel
theorem dX10_askPlace_23 : decode cX10_askPlace 23 = .ok (.goto 4, 3) := by decide +kernel
theorem dX10_askPlace_26 : decode cX10_askPlace 26 = .ok (.iconst 0, 1) := by decide +kernel
theorem dX10_askPlace_27 : decode cX10_askPlace 27 = .ok (.ireturn, 1) := by decide +kernel
abbrev rmX10_askPlace : Room := { frames := 1, cells := 0, slots := 0, locals := 20 }
theorem yd_X10_askPlace : yX10_askPlace.cls = RX10 ∧ yX10_askPlace.cls ≠ "java/lang/invoke/MethodHandle" ∧ yX10_askPlace.cls ≠ "java/lang/invoke/VarHandle" ∧ (parseMethodDescriptor yX10_askPlace.desc).map (fun d => d.parameters.length) = some 1 := by decide +kernel
def fX10_askPlace (r : RS) (a1 : Int32) : Option (Int32) :=
  (fX10_isPlace a1).bind fun q1 =>
  if q1 = 0 then
    some (-2 : Int32)
  else
    (aI 16 (r.2.1 0) a1).bind fun v2 =>
    if v2 = 0 then
      some (-10 : Int32)
    else
      some (0 : Int32)
set_option maxHeartbeats 4000000 in
set_option maxRecDepth 100000 in
theorem tX10_askPlace (κ : KK) (l : Launch) (o : Nat) (r : RS) (a1 : Int32) (q : Int32) (h : fX10_askPlace r a1 = some q) : MM κ l yX10_askPlace cX10_askPlace 2 (some .int) rmX10_askPlace (RA o) [.ref o, .int a1] (RB κ o r) (some (Value.int q)) (RB κ o r) := by
  refine MM.of (by decide +kernel) (Nat.le_of_ble_eq_true rfl) ?_
  intro p e s m below meth c C hnm
  unfold fX10_askPlace at h
  refine G_sub (lv' := [(0, .ref o), (1, .int a1)]) [0, 1] rfl ?_
  refine G_iload_n (pc' := 1) C dX10_askPlace_0 1 rfl rfl ?_
  obtain ⟨q1, hq1, h⟩ := ob h
  refine G_cS0 (pc' := 4) C dX10_askPlace_1 (tX10_isPlace κ l (RA o) (RB κ o r) a1 q1 hq1) (wS tw_ml_X10_115 tw_st_X10_isPlace tw_co_X10_isPlace tw_in_X10) yd_X10_isPlace rfl rfl rfl (by decide) rfl (Nat.le_of_ble_eq_true rfl) rfl rfl ?_
  refine G_if_ne (tgt := 12) (pc' := 7) C dX10_askPlace_4 (by decide) rfl (fun hc => ?_) (fun hc => ?_)
  · replace h := z_in hc h
    refine G_aload_n (pc' := 13) C dX10_askPlace_12 0 rfl rfl ?_
    refine R_g_bits (pc' := 16) C dX10_askPlace_13 rfl ?_
    refine G_iload_n (pc' := 17) C dX10_askPlace_16 1 rfl rfl ?_
    obtain ⟨v2, hv2, h⟩ := ob h
    refine R_l_bits (pc' := 18) C dX10_askPlace_17 hv2 rfl ?_
    refine G_if_ne (tgt := 26) (pc' := 21) C dX10_askPlace_18 (by decide) rfl (fun hc => ?_) (fun hc => ?_)
    · replace h := z_in hc h
      refine G_iconst (pc' := 27) (v := (0 : Int32)) C dX10_askPlace_26 (by decide) rfl ?_
      obtain rfl := Option.some.inj h
      exact G_iret C dX10_askPlace_27 (fun _ h => h)
    · replace h := z_ip hc h
      refine G_bipush (pc' := 23) (v := (-10 : Int32)) C dX10_askPlace_21 (by decide) rfl ?_
      refine G_goto (tgt := 27) C dX10_askPlace_23 (by decide) ?_
      obtain rfl := Option.some.inj h
      exact G_iret C dX10_askPlace_27 (fun _ h => h)
  · replace h := z_ip hc h
    refine G_bipush (pc' := 9) (v := (-2 : Int32)) C dX10_askPlace_7 (by decide) rfl ?_
    refine G_goto (tgt := 27) C dX10_askPlace_9 (by decide) ?_
    obtain rfl := Option.some.inj h
    exact G_iret C dX10_askPlace_27 (fun _ h => h)
theorem dX10_opens_0 : decode cX10_opens 0 = .ok (.iconst 0, 1) := by decide +kernel
theorem dX10_opens_1 : decode cX10_opens 1 = .ok (.istore_n 2, 1) := by decide +kernel
theorem dX10_opens_2 : decode cX10_opens 2 = .ok (.iconst 0, 1) := by decide +kernel
theorem dX10_opens_3 : decode cX10_opens 3 = .ok (.istore_n 3, 1) := by decide +kernel
theorem dX10_opens_4 : decode cX10_opens 4 = .ok (.iload_n 3, 1) := by decide +kernel
theorem dX10_opens_5 : decode cX10_opens 5 = .ok (.aload_n 0, 1) := by decide +kernel
theorem dX10_opens_6 : decode cX10_opens 6 = .ok (.iload_n 1, 1) := by decide +kernel
theorem dX10_opens_7 : decode cX10_opens 7 = .ok (.invokevirtual 119, 3) := by decide +kernel
theorem dX10_opens_10 : decode cX10_opens 10 = .ok (.if_icmp .ge 27, 3) := by decide +kernel
theorem dX10_opens_13 : decode cX10_opens 13 = .ok (.iload_n 2, 1) := by decide +kernel
theorem dX10_opens_14 : decode cX10_opens 14 = .ok (.aload_n 0, 1) := by decide +kernel
theorem dX10_opens_15 : decode cX10_opens 15 = .ok (.iload_n 1, 1) := by decide +kernel
theorem dX10_opens_16 : decode cX10_opens 16 = .ok (.iload_n 3, 1) := by decide +kernel
theorem dX10_opens_17 : decode cX10_opens 17 = .ok (.invokevirtual 123, 3) := by decide +kernel
theorem dX10_opens_20 : decode cX10_opens 20 = .ok (.iconst 2, 1) := by decide +kernel
theorem dX10_opens_21 : decode cX10_opens 21 = .ok (.if_icmp .ne 7, 3) := by decide +kernel
theorem dX10_opens_24 : decode cX10_opens 24 = .ok (.iconst 1, 1) := by decide +kernel
theorem dX10_opens_25 : decode cX10_opens 25 = .ok (.goto 4, 3) := by decide +kernel
theorem dX10_opens_28 : decode cX10_opens 28 = .ok (.iconst 0, 1) := by decide +kernel
theorem dX10_opens_29 : decode cX10_opens 29 = .ok (.iadd, 1) := by decide +kernel
theorem dX10_opens_30 : decode cX10_opens 30 = .ok (.istore_n 2, 1) := by decide +kernel
theorem dX10_opens_31 : decode cX10_opens 31 = .ok (.iinc 3 1, 3) := by decide +kernel
theorem dX10_opens_34 : decode cX10_opens 34 = .ok (.goto (-30), 3) := by decide +kernel
theorem dX10_opens_37 : decode cX10_opens 37 = .ok (.iload_n 2, 1) := by decide +kernel
theorem dX10_opens_38 : decode cX10_opens 38 = .ok (.ireturn, 1) := by decide +kernel
abbrev rmX10_opens : Room := { frames := 1, cells := 0, slots := 0, locals := 22 }
theorem yd_X10_opens : yX10_opens.cls = RX10 ∧ yX10_opens.cls ≠ "java/lang/invoke/MethodHandle" ∧ yX10_opens.cls ≠ "java/lang/invoke/VarHandle" ∧ (parseMethodDescriptor yX10_opens.desc).map (fun d => d.parameters.length) = some 1 := by decide +kernel
def fX10_opens_L4_J29 (r : RS) (l1 : Int32) (l3 : Int32) (s0 : Int32) (s1 : Int32) : Option ((Int32 × Int32) ⊕ Int32) :=
  some (.inl ((s1 + s0), (l3 + (1 : Int32))))
def fX10_opens_L4 (r : RS) (l1 : Int32) (l2 : Int32) (l3 : Int32) : Option ((Int32 × Int32) ⊕ Int32) :=
  (fX10_inputs r l1).bind fun q1 =>
  if q1 ≤ l3 then
    some (.inr l2)
  else
    (fX10_say0 r l1 l3).bind fun q2 =>
    if q2 = (2 : Int32) then
      fX10_opens_L4_J29 r l1 l3 (1 : Int32) l2
    else
      fX10_opens_L4_J29 r l1 l3 (0 : Int32) l2
def fX10_opens (r : RS) (a1 : Int32) : Option (Int32) :=
  (lpN (fun u => fX10_opens_L4 r a1 u.1 u.2) bigN ((0 : Int32), (0 : Int32))).bind fun e3 =>
  some e3
set_option maxHeartbeats 4000000 in
set_option maxRecDepth 100000 in
theorem tX10_opens_L4 {κ : KK} {p : Program} {l : Launch} {e : Env} {s : State} {m : MethodId} {args : Array Value} {below : List Frame} {meth : Method} {c : Code} (C : Cx κ p s m args meth c cX10_opens 4 RX10 (some .int)) {o : Nat} {v : Option Value} {B' : Heap → Prop} {r : RS} {l1 : Int32} {l2 : Int32} {l3 : Int32} {y : (Int32 × Int32) ⊕ Int32} (h : fX10_opens_L4 r l1 l2 l3 = some y) (kc : ∀ u, y = .inl u → GR κ p l e s m args below meth c rmX10_opens 4 o v B' r 4 [(0, .ref o), (1, .int l1), (2, .int u.1), (3, .int u.2)] []) (kx : ∀ w, y = .inr w → GR κ p l e s m args below meth c rmX10_opens 4 o v B' r 37 [(2, .int w)] []) : GR κ p l e s m args below meth c rmX10_opens 4 o v B' r 4 [(0, .ref o), (1, .int l1), (2, .int l2), (3, .int l3)] [] := by
  have J29 : ∀ (l3 : Int32) (s0 : Int32) (s1 : Int32), fX10_opens_L4_J29 r l1 l3 s0 s1 = some y → GR κ p l e s m args below meth c rmX10_opens 4 o v B' r 29 [(0, .ref o), (1, .int l1), (3, .int l3)] [.int s0, .int s1] := by
    intro l3 s0 s1 h
    unfold fX10_opens_L4_J29 at h
    refine G_iadd (pc' := 30) C dX10_opens_29 rfl ?_
    refine G_istore_n (pc' := 31) C dX10_opens_30 [(2, .int (s1 + s0)), (0, .ref o), (1, .int l1), (3, .int l3)] (by decide) rfl rfl ?_
    refine G_iinc (pc' := 34) C dX10_opens_31 3 rfl rfl [(3, .int (l3 + (1 : Int32))), (2, .int (s1 + s0)), (0, .ref o), (1, .int l1)] (by decide) rfl rfl ?_
    refine G_goto (tgt := 4) C dX10_opens_34 (by decide) ?_
    exact G_sub [2, 3, 1, 0] rfl (kc _ (Option.some.inj h).symm)
  unfold fX10_opens_L4 at h
  refine G_iload_n (pc' := 5) C dX10_opens_4 3 rfl rfl ?_
  refine G_aload_n (pc' := 6) C dX10_opens_5 0 rfl rfl ?_
  refine G_iload_n (pc' := 7) C dX10_opens_6 1 rfl rfl ?_
  obtain ⟨q1, hq1, h⟩ := ob h
  refine G_cV0 (pc' := 10) C dX10_opens_7 (tX10_inputs κ l o r l1 q1 hq1) (wV tw_ml_X10_119 tw_im_X10_inputs tw_se_X10_X10_inputs tw_in_X10 tw_co_X10_inputs) yd_X10_inputs rfl fi_X10 (RB_rd 0 rfl) rfl rfl (by decide) rfl (Nat.le_of_ble_eq_true rfl) rfl rfl ?_
  refine G_icmp_ge (tgt := 37) (pc' := 13) C dX10_opens_10 (by decide) rfl (fun hc => ?_) (fun hc => ?_)
  · replace h := z_ip hc h
    exact G_sub [2] rfl (kx _ (Option.some.inj h).symm)
  · replace h := z_in hc h
    refine G_iload_n (pc' := 14) C dX10_opens_13 2 rfl rfl ?_
    refine G_aload_n (pc' := 15) C dX10_opens_14 0 rfl rfl ?_
    refine G_iload_n (pc' := 16) C dX10_opens_15 1 rfl rfl ?_
    refine G_iload_n (pc' := 17) C dX10_opens_16 3 rfl rfl ?_
    obtain ⟨q2, hq2, h⟩ := ob h
    refine G_cV0 (pc' := 20) C dX10_opens_17 (tX10_say0 κ l o r l1 l3 q2 hq2) (wV tw_ml_X10_123 tw_im_X10_say0 tw_se_X10_X10_say0 tw_in_X10 tw_co_X10_say0) yd_X10_say0 rfl fi_X10 (RB_rd 0 rfl) rfl rfl (by decide) rfl (Nat.le_of_ble_eq_true rfl) rfl rfl ?_
    refine G_iconst (pc' := 21) (v := (2 : Int32)) C dX10_opens_20 (by decide) rfl ?_
    refine G_icmp_ne (tgt := 28) (pc' := 24) C dX10_opens_21 (by decide) rfl (fun hc => ?_) (fun hc => ?_)
    · replace h := z_in hc h
      refine G_iconst (pc' := 29) (v := (0 : Int32)) C dX10_opens_28 (by decide) rfl ?_
      exact G_sub [0, 1, 3] rfl (J29 l3 (0 : Int32) l2 h)
    · replace h := z_ip hc h
      refine G_iconst (pc' := 25) (v := (1 : Int32)) C dX10_opens_24 (by decide) rfl ?_
      refine G_goto (tgt := 29) C dX10_opens_25 (by decide) ?_
      exact G_sub [0, 1, 3] rfl (J29 l3 (1 : Int32) l2 h)
set_option maxHeartbeats 4000000 in
set_option maxRecDepth 100000 in
theorem tX10_opens (κ : KK) (l : Launch) (o : Nat) (r : RS) (a1 : Int32) (q : Int32) (h : fX10_opens r a1 = some q) : MM κ l yX10_opens cX10_opens 4 (some .int) rmX10_opens (RA o) [.ref o, .int a1] (RB κ o r) (some (Value.int q)) (RB κ o r) := by
  refine MM.of (by decide +kernel) (Nat.le_of_ble_eq_true rfl) ?_
  intro p e s m below meth c C hnm
  unfold fX10_opens at h
  refine G_sub (lv' := [(0, .ref o), (1, .int a1)]) [0, 1] rfl ?_
  refine G_iconst (pc' := 1) (v := (0 : Int32)) C dX10_opens_0 (by decide) rfl ?_
  refine G_istore_n (pc' := 2) C dX10_opens_1 [(2, .int (0 : Int32)), (0, .ref o), (1, .int a1)] (by decide) rfl rfl ?_
  refine G_iconst (pc' := 3) (v := (0 : Int32)) C dX10_opens_2 (by decide) rfl ?_
  refine G_istore_n (pc' := 4) C dX10_opens_3 [(3, .int (0 : Int32)), (2, .int (0 : Int32)), (0, .ref o), (1, .int a1)] (by decide) rfl rfl ?_
  obtain ⟨e3, hle3, h⟩ := ob h
  refine G_sub (lv' := [(0, .ref o), (1, .int a1), (2, .int (0 : Int32)), (3, .int (0 : Int32))]) [2, 3, 1, 0] rfl ?_
  refine lpN_ind (P := fun u => GR κ p l e s m ([.ref o, .int a1] : List Value).toArray below meth c rmX10_opens 4 o (some (Value.int q)) (RB κ o r) r 4 [(0, .ref o), (1, .int a1), (2, .int u.1), (3, .int u.2)] []) (X := fun w => GR κ p l e s m ([.ref o, .int a1] : List Value).toArray below meth c rmX10_opens 4 o (some (Value.int q)) (RB κ o r) r 37 [(2, .int w)] []) (fun u y hb kc kx => tX10_opens_L4 C hb kc kx) _ _ _ hle3 ?_
  refine G_iload_n (pc' := 38) C dX10_opens_37 0 rfl rfl ?_
  obtain rfl := Option.some.inj h
  exact G_iret C dX10_opens_38 (fun _ h => h)
theorem dX10_askTold_0 : decode cX10_askTold 0 = .ok (.aload_n 0, 1) := by decide +kernel
theorem dX10_askTold_1 : decode cX10_askTold 1 = .ok (.iload_n 1, 1) := by decide +kernel
theorem dX10_askTold_2 : decode cX10_askTold 2 = .ok (.invokevirtual 127, 3) := by decide +kernel
theorem dX10_askTold_5 : decode cX10_askTold 5 = .ok (.istore_n 2, 1) := by decide +kernel
theorem dX10_askTold_6 : decode cX10_askTold 6 = .ok (.iload_n 2, 1) := by decide +kernel
theorem dX10_askTold_7 : decode cX10_askTold 7 = .ok (.ifCond .eq 7, 3) := by decide +kernel
theorem dX10_askTold_10 : decode cX10_askTold 10 = .ok (.iload_n 2, 1) := by decide +kernel
theorem dX10_askTold_11 : decode cX10_askTold 11 = .ok (.goto 17, 3) := by decide +kernel
theorem dX10_askTold_14 : decode cX10_askTold 14 = .ok (.aload_n 0, 1) := by decide +kernel
theorem dX10_askTold_15 : decode cX10_askTold 15 = .ok (.iload_n 1, 1) := by decide +kernel
theorem dX10_askTold_16 : decode cX10_askTold 16 = .ok (.invokevirtual 130, 3) := by decide +kernel
theorem dX10_askTold_19 : decode cX10_askTold 19 = .ok (.ifCond .le 8, 3) := by decide +kernel
theorem dX10_askTold_22 : decode cX10_askTold 22 = .ok (.bipush (-4), 2) := by decide +kernel
theorem dX10_askTold_24 : decode cX10_askTold 24 = .ok (.goto 4, 3) := by decide +kernel
theorem dX10_askTold_27 : decode cX10_askTold 27 = .ok (.iconst 0, 1) := by decide +kernel
theorem dX10_askTold_28 : decode cX10_askTold 28 = .ok (.ireturn, 1) := by decide +kernel
abbrev rmX10_askTold : Room := { frames := 2, cells := 0, slots := 0, locals := 45 }
theorem yd_X10_askTold : yX10_askTold.cls = RX10 ∧ yX10_askTold.cls ≠ "java/lang/invoke/MethodHandle" ∧ yX10_askTold.cls ≠ "java/lang/invoke/VarHandle" ∧ (parseMethodDescriptor yX10_askTold.desc).map (fun d => d.parameters.length) = some 1 := by decide +kernel
def fX10_askTold (r : RS) (a1 : Int32) : Option (Int32) :=
  (fX10_askPlace r a1).bind fun q1 =>
  if q1 = 0 then
    (fX10_opens r a1).bind fun q2 =>
    if q2 ≤ 0 then
      some (0 : Int32)
    else
      some (-4 : Int32)
  else
    some q1
set_option maxHeartbeats 4000000 in
set_option maxRecDepth 100000 in
theorem tX10_askTold (κ : KK) (l : Launch) (o : Nat) (r : RS) (a1 : Int32) (q : Int32) (h : fX10_askTold r a1 = some q) : MM κ l yX10_askTold cX10_askTold 3 (some .int) rmX10_askTold (RA o) [.ref o, .int a1] (RB κ o r) (some (Value.int q)) (RB κ o r) := by
  refine MM.of (by decide +kernel) (Nat.le_of_ble_eq_true rfl) ?_
  intro p e s m below meth c C hnm
  unfold fX10_askTold at h
  refine G_sub (lv' := [(0, .ref o), (1, .int a1)]) [0, 1] rfl ?_
  refine G_aload_n (pc' := 1) C dX10_askTold_0 0 rfl rfl ?_
  refine G_iload_n (pc' := 2) C dX10_askTold_1 1 rfl rfl ?_
  obtain ⟨q1, hq1, h⟩ := ob h
  refine G_cV0 (pc' := 5) C dX10_askTold_2 (tX10_askPlace κ l o r a1 q1 hq1) (wV tw_ml_X10_127 tw_im_X10_askPlace tw_se_X10_X10_askPlace tw_in_X10 tw_co_X10_askPlace) yd_X10_askPlace rfl fi_X10 (RB_rd 0 rfl) rfl rfl (by decide) rfl (Nat.le_of_ble_eq_true rfl) rfl rfl ?_
  refine G_istore_n (pc' := 6) C dX10_askTold_5 [(2, .int q1), (0, .ref o), (1, .int a1)] (by decide) rfl rfl ?_
  refine G_iload_n (pc' := 7) C dX10_askTold_6 0 rfl rfl ?_
  refine G_if_eq (tgt := 14) (pc' := 10) C dX10_askTold_7 (by decide) rfl (fun hc => ?_) (fun hc => ?_)
  · replace h := z_ip hc h
    refine G_aload_n (pc' := 15) C dX10_askTold_14 1 rfl rfl ?_
    refine G_iload_n (pc' := 16) C dX10_askTold_15 2 rfl rfl ?_
    obtain ⟨q2, hq2, h⟩ := ob h
    refine G_cV0 (pc' := 19) C dX10_askTold_16 (tX10_opens κ l o r a1 q2 hq2) (wV tw_ml_X10_130 tw_im_X10_opens tw_se_X10_X10_opens tw_in_X10 tw_co_X10_opens) yd_X10_opens rfl fi_X10 (RB_rd 0 rfl) rfl rfl (by decide) rfl (Nat.le_of_ble_eq_true rfl) rfl rfl ?_
    refine G_if_le (tgt := 27) (pc' := 22) C dX10_askTold_19 (by decide) rfl (fun hc => ?_) (fun hc => ?_)
    · replace h := z_ip hc h
      refine G_iconst (pc' := 28) (v := (0 : Int32)) C dX10_askTold_27 (by decide) rfl ?_
      obtain rfl := Option.some.inj h
      exact G_iret C dX10_askTold_28 (fun _ h => h)
    · replace h := z_in hc h
      refine G_bipush (pc' := 24) (v := (-4 : Int32)) C dX10_askTold_22 (by decide) rfl ?_
      refine G_goto (tgt := 28) C dX10_askTold_24 (by decide) ?_
      obtain rfl := Option.some.inj h
      exact G_iret C dX10_askTold_28 (fun _ h => h)
  · replace h := z_in hc h
    refine G_iload_n (pc' := 11) C dX10_askTold_10 0 rfl rfl ?_
    refine G_goto (tgt := 28) C dX10_askTold_11 (by decide) ?_
    obtain rfl := Option.some.inj h
    exact G_iret C dX10_askTold_28 (fun _ h => h)
theorem dX10_ones_0 : decode cX10_ones 0 = .ok (.iconst 0, 1) := by decide +kernel
theorem dX10_ones_1 : decode cX10_ones 1 = .ok (.istore_n 1, 1) := by decide +kernel
theorem dX10_ones_2 : decode cX10_ones 2 = .ok (.iconst 0, 1) := by decide +kernel
theorem dX10_ones_3 : decode cX10_ones 3 = .ok (.istore_n 2, 1) := by decide +kernel
theorem dX10_ones_4 : decode cX10_ones 4 = .ok (.iload_n 2, 1) := by decide +kernel
theorem dX10_ones_5 : decode cX10_ones 5 = .ok (.bipush 9, 2) := by decide +kernel
theorem dX10_ones_7 : decode cX10_ones 7 = .ok (.if_icmp .ge 17, 3) := by decide +kernel
theorem dX10_ones_10 : decode cX10_ones 10 = .ok (.iload_n 1, 1) := by decide +kernel
theorem dX10_ones_11 : decode cX10_ones 11 = .ok (.iload_n 0, 1) := by decide +kernel
theorem dX10_ones_12 : decode cX10_ones 12 = .ok (.iload_n 2, 1) := by decide +kernel
theorem dX10_ones_13 : decode cX10_ones 13 = .ok (.ishr, 1) := by decide +kernel
theorem dX10_ones_14 : decode cX10_ones 14 = .ok (.iconst 1, 1) := by decide +kernel
theorem dX10_ones_15 : decode cX10_ones 15 = .ok (.iand, 1) := by decide +kernel
theorem dX10_ones_16 : decode cX10_ones 16 = .ok (.iadd, 1) := by decide +kernel
theorem dX10_ones_17 : decode cX10_ones 17 = .ok (.istore_n 1, 1) := by decide +kernel
theorem dX10_ones_18 : decode cX10_ones 18 = .ok (.iinc 2 1, 3) := by decide +kernel
theorem dX10_ones_21 : decode cX10_ones 21 = .ok (.goto (-17), 3) := by decide +kernel
theorem dX10_ones_24 : decode cX10_ones 24 = .ok (.iload_n 1, 1) := by decide +kernel
theorem dX10_ones_25 : decode cX10_ones 25 = .ok (.ireturn, 1) := by decide +kernel
abbrev rmX10_ones : Room := { frames := 0, cells := 0, slots := 0, locals := 0 }
theorem yd_X10_ones : yX10_ones.cls ≠ "java/lang/invoke/MethodHandle" ∧ yX10_ones.cls ≠ "java/lang/invoke/VarHandle" ∧ (parseMethodDescriptor yX10_ones.desc).map (fun d => d.parameters.length) = some 1 := by decide +kernel
def fX10_ones_L4 (l0 : Int32) (l1 : Int32) (l2 : Int32) : Option ((Int32 × Int32) ⊕ Int32) :=
  if (9 : Int32) ≤ l2 then
    some (.inr l1)
  else
    some (.inl ((l1 + ((l0 >>> (l2 &&& 31)) &&& (1 : Int32))), (l2 + (1 : Int32))))
def fX10_ones (a1 : Int32) : Option (Int32) :=
  (lpN (fun u => fX10_ones_L4 a1 u.1 u.2) bigN ((0 : Int32), (0 : Int32))).bind fun e1 =>
  some e1
set_option maxHeartbeats 4000000 in
set_option maxRecDepth 100000 in
theorem tX10_ones_L4 {κ : KK} {p : Program} {l : Launch} {e : Env} {s : State} {m : MethodId} {args : Array Value} {below : List Frame} {meth : Method} {c : Code} (C : Cx κ p s m args meth c cX10_ones 3 RX10 (some .int)) {A : Nat → Prop} {B : Heap → Prop} {v : Option Value} {B' : Heap → Prop} {l0 : Int32} {l1 : Int32} {l2 : Int32} {y : (Int32 × Int32) ⊕ Int32} (h : fX10_ones_L4 l0 l1 l2 = some y) (kc : ∀ u, y = .inl u → GT p l e s m args below meth c rmX10_ones 3 A v B' B 4 [(0, .int l0), (1, .int u.1), (2, .int u.2)] []) (kx : ∀ w, y = .inr w → GT p l e s m args below meth c rmX10_ones 3 A v B' B 24 [(1, .int w)] []) : GT p l e s m args below meth c rmX10_ones 3 A v B' B 4 [(0, .int l0), (1, .int l1), (2, .int l2)] [] := by
  unfold fX10_ones_L4 at h
  refine G_iload_n (pc' := 5) C dX10_ones_4 2 rfl rfl ?_
  refine G_bipush (pc' := 7) (v := (9 : Int32)) C dX10_ones_5 (by decide) rfl ?_
  refine G_icmp_ge (tgt := 24) (pc' := 10) C dX10_ones_7 (by decide) rfl (fun hc => ?_) (fun hc => ?_)
  · replace h := z_ip hc h
    exact G_sub [1] rfl (kx _ (Option.some.inj h).symm)
  · replace h := z_in hc h
    refine G_iload_n (pc' := 11) C dX10_ones_10 1 rfl rfl ?_
    refine G_iload_n (pc' := 12) C dX10_ones_11 0 rfl rfl ?_
    refine G_iload_n (pc' := 13) C dX10_ones_12 2 rfl rfl ?_
    refine G_ishr (pc' := 14) C dX10_ones_13 rfl ?_
    refine G_iconst (pc' := 15) (v := (1 : Int32)) C dX10_ones_14 (by decide) rfl ?_
    refine G_iand (pc' := 16) C dX10_ones_15 rfl ?_
    refine G_iadd (pc' := 17) C dX10_ones_16 rfl ?_
    refine G_istore_n (pc' := 18) C dX10_ones_17 [(1, .int (l1 + ((l0 >>> (l2 &&& 31)) &&& (1 : Int32)))), (0, .int l0), (2, .int l2)] (by decide) rfl rfl ?_
    refine G_iinc (pc' := 21) C dX10_ones_18 2 rfl rfl [(2, .int (l2 + (1 : Int32))), (1, .int (l1 + ((l0 >>> (l2 &&& 31)) &&& (1 : Int32)))), (0, .int l0)] (by decide) rfl rfl ?_
    refine G_goto (tgt := 4) C dX10_ones_21 (by decide) ?_
    exact G_sub [2, 1, 0] rfl (kc _ (Option.some.inj h).symm)
set_option maxHeartbeats 4000000 in
set_option maxRecDepth 100000 in
theorem tX10_ones (κ : KK) (l : Launch) (A : Nat → Prop) (B : Heap → Prop) (a1 : Int32) (q : Int32) (h : fX10_ones a1 = some q) : MM κ l yX10_ones cX10_ones 3 (some .int) rmX10_ones A [.int a1] B (some (Value.int q)) B := by
  refine MM.of (by decide +kernel) (Nat.le_of_ble_eq_true rfl) ?_
  intro p e s m below meth c C hnm
  unfold fX10_ones at h
  refine G_sub (lv' := [(0, .int a1)]) [0] rfl ?_
  refine G_iconst (pc' := 1) (v := (0 : Int32)) C dX10_ones_0 (by decide) rfl ?_
  refine G_istore_n (pc' := 2) C dX10_ones_1 [(1, .int (0 : Int32)), (0, .int a1)] (by decide) rfl rfl ?_
  refine G_iconst (pc' := 3) (v := (0 : Int32)) C dX10_ones_2 (by decide) rfl ?_
  refine G_istore_n (pc' := 4) C dX10_ones_3 [(2, .int (0 : Int32)), (1, .int (0 : Int32)), (0, .int a1)] (by decide) rfl rfl ?_
  obtain ⟨e1, hle1, h⟩ := ob h
  refine G_sub (lv' := [(0, .int a1), (1, .int (0 : Int32)), (2, .int (0 : Int32))]) [2, 1, 0] rfl ?_
  refine lpN_ind (P := fun u => GT p l e s m ([.int a1] : List Value).toArray below meth c rmX10_ones 3 A (some (Value.int q)) B B 4 [(0, .int a1), (1, .int u.1), (2, .int u.2)] []) (X := fun w => GT p l e s m ([.int a1] : List Value).toArray below meth c rmX10_ones 3 A (some (Value.int q)) B B 24 [(1, .int w)] []) (fun u y hb kc kx => tX10_ones_L4 C hb kc kx) _ _ _ hle1 ?_
  refine G_iload_n (pc' := 25) C dX10_ones_24 0 rfl rfl ?_
  obtain rfl := Option.some.inj h
  exact G_iret C dX10_ones_25 (fun _ h => h)
theorem dX10_sheet_0 : decode cX10_sheet 0 = .ok (.iload_n 1, 1) := by decide +kernel
theorem dX10_sheet_1 : decode cX10_sheet 1 = .ok (.invokestatic 133, 3) := by decide +kernel
theorem dX10_sheet_4 : decode cX10_sheet 4 = .ok (.ifCond .eq 19, 3) := by decide +kernel
theorem dX10_sheet_7 : decode cX10_sheet 7 = .ok (.iload_n 2, 1) := by decide +kernel
theorem dX10_sheet_8 : decode cX10_sheet 8 = .ok (.ifCond .lt 15, 3) := by decide +kernel
theorem dX10_sheet_11 : decode cX10_sheet 11 = .ok (.iload_n 2, 1) := by decide +kernel
theorem dX10_sheet_12 : decode cX10_sheet 12 = .ok (.iconst 3, 1) := by decide +kernel
theorem dX10_sheet_13 : decode cX10_sheet 13 = .ok (.if_icmp .gt 10, 3) := by decide +kernel
theorem dX10_sheet_16 : decode cX10_sheet 16 = .ok (.iload_n 3, 1) := by decide +kernel
theorem dX10_sheet_17 : decode cX10_sheet 17 = .ok (.sipush 256, 3) := by decide +kernel
theorem dX10_sheet_20 : decode cX10_sheet 20 = .ok (.if_icmp .le 6, 3) := by decide +kernel
theorem dX10_sheet_23 : decode cX10_sheet 23 = .ok (.bipush (-2), 2) := by decide +kernel
theorem dX10_sheet_25 : decode cX10_sheet 25 = .ok (.ireturn, 1) := by decide +kernel
theorem dX10_sheet_26 : decode cX10_sheet 26 = .ok (.iload_n 3, 1) := by decide +kernel
theorem dX10_sheet_27 : decode cX10_sheet 27 = .ok (.ifCond .ge 10, 3) := by decide +kernel
theorem dX10_sheet_30 : decode cX10_sheet 30 = .ok (.aload_n 0, 1) := by decide +kernel
theorem dX10_sheet_31 : decode cX10_sheet 31 = .ok (.bipush (-13), 2) := by decide +kernel
theorem dX10_sheet_33 : decode cX10_sheet 33 = .ok (.invokevirtual 136, 3) := by decide +kernel
theorem dX10_sheet_36 : decode cX10_sheet 36 = .ok (.ireturn, 1) := by decide +kernel
theorem dX10_sheet_37 : decode cX10_sheet 37 = .ok (.aload_n 0, 1) := by decide +kernel
theorem dX10_sheet_38 : decode cX10_sheet 38 = .ok (.getfield 22, 3) := by decide +kernel
theorem dX10_sheet_41 : decode cX10_sheet 41 = .ok (.iload_n 1, 1) := by decide +kernel
theorem dX10_sheet_42 : decode cX10_sheet 42 = .ok (.iload_n 2, 1) := by decide +kernel
theorem dX10_sheet_43 : decode cX10_sheet 43 = .ok (.iastore, 1) := by decide +kernel
theorem dX10_sheet_44 : decode cX10_sheet 44 = .ok (.aload_n 0, 1) := by decide +kernel
theorem dX10_sheet_45 : decode cX10_sheet 45 = .ok (.getfield 25, 3) := by decide +kernel
theorem dX10_sheet_48 : decode cX10_sheet 48 = .ok (.iload_n 1, 1) := by decide +kernel
theorem dX10_sheet_49 : decode cX10_sheet 49 = .ok (.iload_n 3, 1) := by decide +kernel
theorem dX10_sheet_50 : decode cX10_sheet 50 = .ok (.iastore, 1) := by decide +kernel
theorem dX10_sheet_51 : decode cX10_sheet 51 = .ok (.iconst 0, 1) := by decide +kernel
theorem dX10_sheet_52 : decode cX10_sheet 52 = .ok (.istore 4, 2) := by decide +kernel
theorem dX10_sheet_54 : decode cX10_sheet 54 = .ok (.iload 4, 2) := by decide +kernel
theorem dX10_sheet_56 : decode cX10_sheet 56 = .ok (.iload_n 3, 1) := by decide +kernel
theorem dX10_sheet_57 : decode cX10_sheet 57 = .ok (.if_icmp .ge 23, 3) := by decide +kernel
theorem dX10_sheet_60 : decode cX10_sheet 60 = .ok (.aload_n 0, 1) := by decide +kernel
theorem dX10_sheet_61 : decode cX10_sheet 61 = .ok (.getfield 28, 3) := by decide +kernel
theorem dX10_sheet_64 : decode cX10_sheet 64 = .ok (.sipush 256, 3) := by decide +kernel
theorem dX10_sheet_67 : decode cX10_sheet 67 = .ok (.iload_n 1, 1) := by decide +kernel
theorem dX10_sheet_68 : decode cX10_sheet 68 = .ok (.imul, 1) := by decide +kernel
theorem dX10_sheet_69 : decode cX10_sheet 69 = .ok (.iload 4, 2) := by decide +kernel
theorem dX10_sheet_71 : decode cX10_sheet 71 = .ok (.iadd, 1) := by decide +kernel
theorem dX10_sheet_72 : decode cX10_sheet 72 = .ok (.lconst 0, 1) := by decide +kernel
theorem dX10_sheet_73 : decode cX10_sheet 73 = .ok (.lastore, 1) := by decide +kernel
theorem dX10_sheet_74 : decode cX10_sheet 74 = .ok (.iinc 4 1, 3) := by decide +kernel
theorem dX10_sheet_77 : decode cX10_sheet 77 = .ok (.goto (-23), 3) := by decide +kernel
theorem dX10_sheet_80 : decode cX10_sheet 80 = .ok (.iload_n 3, 1) := by decide +kernel
theorem dX10_sheet_81 : decode cX10_sheet 81 = .ok (.ireturn, 1) := by decide +kernel
abbrev rmX10_sheet : Room := { frames := 1, cells := 0, slots := 0, locals := 21 }
theorem yd_X10_sheet : yX10_sheet.cls = RX10 ∧ yX10_sheet.cls ≠ "java/lang/invoke/MethodHandle" ∧ yX10_sheet.cls ≠ "java/lang/invoke/VarHandle" ∧ (parseMethodDescriptor yX10_sheet.desc).map (fun d => d.parameters.length) = some 3 := by decide +kernel
def fX10_sheet_L54 (r : RS) (l1 : Int32) (l3 : Int32) (l4 : Int32) : Option ((Int32 × RS) ⊕ RS) :=
  if l3 ≤ l4 then
    some (.inr r)
  else
    (sL r 6 1536 (((256 : Int32) * l1) + l4) (0 : Int64)).bind fun r4 =>
    some (.inl ((l4 + (1 : Int32)), r4))
def fX10_sheet_J23 (r : RS) : Option (Int32 × RS) :=
  some ((-2 : Int32), r)
def fX10_sheet (r : RS) (a1 : Int32) (a2 : Int32) (a3 : Int32) : Option (Int32 × RS) :=
  (fX10_isSheet a1).bind fun q1 =>
  if q1 = 0 then
    fX10_sheet_J23 r
  else
    if a2 < 0 then
      fX10_sheet_J23 r
    else
      if (3 : Int32) < a2 then
        fX10_sheet_J23 r
      else
        if a3 ≤ (256 : Int32) then
          if 0 ≤ a3 then
            (sA r 4 6 a1 a2).bind fun r2 =>
            (sA r2 5 6 a1 a3).bind fun r3 =>
            (lpN (fun u => fX10_sheet_L54 u.2 a1 a3 u.1) bigN ((0 : Int32), r3)).bind fun e5 =>
            some (a3, e5)
          else
            (fX10_meet r (-13 : Int32)).bind fun q6 =>
            some (q6.1, q6.2)
        else
          fX10_sheet_J23 r
set_option maxHeartbeats 4000000 in
set_option maxRecDepth 100000 in
theorem tX10_sheet_L54 {κ : KK} {p : Program} {l : Launch} {e : Env} {s : State} {m : MethodId} {args : Array Value} {below : List Frame} {meth : Method} {c : Code} (C : Cx κ p s m args meth c cX10_sheet 5 RX10 (some .int)) {o : Nat} {v : Option Value} {B' : Heap → Prop} {r : RS} {l1 : Int32} {l3 : Int32} {l4 : Int32} {y : (Int32 × RS) ⊕ RS} (h : fX10_sheet_L54 r l1 l3 l4 = some y) (kc : ∀ u, y = .inl u → GR κ p l e s m args below meth c rmX10_sheet 5 o v B' u.2 54 [(0, .ref o), (1, .int l1), (3, .int l3), (4, .int u.1)] []) (kx : ∀ w, y = .inr w → GR κ p l e s m args below meth c rmX10_sheet 5 o v B' w 80 [(3, .int l3)] []) : GR κ p l e s m args below meth c rmX10_sheet 5 o v B' r 54 [(0, .ref o), (1, .int l1), (3, .int l3), (4, .int l4)] [] := by
  unfold fX10_sheet_L54 at h
  refine G_iload (pc' := 56) C dX10_sheet_54 3 rfl rfl ?_
  refine G_iload_n (pc' := 57) C dX10_sheet_56 2 rfl rfl ?_
  refine G_icmp_ge (tgt := 80) (pc' := 60) C dX10_sheet_57 (by decide) rfl (fun hc => ?_) (fun hc => ?_)
  · replace h := z_ip hc h
    exact G_sub [2] rfl (kx _ (Option.some.inj h).symm)
  · replace h := z_in hc h
    refine G_aload_n (pc' := 61) C dX10_sheet_60 0 rfl rfl ?_
    refine R_g_sheet (pc' := 64) C dX10_sheet_61 rfl ?_
    refine G_sipush (pc' := 67) (v := (256 : Int32)) C dX10_sheet_64 (by decide) rfl ?_
    refine G_iload_n (pc' := 68) C dX10_sheet_67 1 rfl rfl ?_
    refine G_imul (pc' := 69) C dX10_sheet_68 rfl ?_
    refine G_iload (pc' := 71) C dX10_sheet_69 3 rfl rfl ?_
    refine G_iadd (pc' := 72) C dX10_sheet_71 rfl ?_
    refine G_lconst (pc' := 73) (v := (0 : Int64)) C dX10_sheet_72 (by decide) rfl ?_
    obtain ⟨r4, hr4, h⟩ := ob h
    refine R_s_sheet (pc' := 74) C dX10_sheet_73 hr4 rfl ?_
    refine G_iinc (pc' := 77) C dX10_sheet_74 3 rfl rfl [(4, .int (l4 + (1 : Int32))), (0, .ref o), (1, .int l1), (3, .int l3)] (by decide) rfl rfl ?_
    refine G_goto (tgt := 54) C dX10_sheet_77 (by decide) ?_
    exact G_sub [1, 2, 3, 0] rfl (kc _ (Option.some.inj h).symm)
set_option maxHeartbeats 4000000 in
set_option maxRecDepth 100000 in
theorem tX10_sheet (κ : KK) (l : Launch) (o : Nat) (r : RS) (a1 : Int32) (a2 : Int32) (a3 : Int32) (q : Int32 × RS) (h : fX10_sheet r a1 a2 a3 = some q) : MM κ l yX10_sheet cX10_sheet 5 (some .int) rmX10_sheet (RA o) [.ref o, .int a1, .int a2, .int a3] (RB κ o r) (some (Value.int q.1)) (RB κ o q.2) := by
  refine MM.of (by decide +kernel) (Nat.le_of_ble_eq_true rfl) ?_
  intro p e s m below meth c C hnm
  have J23 : ∀ (r : RS), fX10_sheet_J23 r = some q → GR κ p l e s m ([.ref o, .int a1, .int a2, .int a3] : List Value).toArray below meth c rmX10_sheet 5 o (some (Value.int q.1)) (RB κ o q.2) r 23 [] [] := by
    intro r h
    unfold fX10_sheet_J23 at h
    refine G_bipush (pc' := 25) (v := (-2 : Int32)) C dX10_sheet_23 (by decide) rfl ?_
    obtain rfl := Option.some.inj h
    exact G_iret C dX10_sheet_25 (fun _ h => h)
  unfold fX10_sheet at h
  refine G_sub (lv' := [(0, .ref o), (1, .int a1), (2, .int a2), (3, .int a3)]) [0, 1, 2, 3] rfl ?_
  refine G_iload_n (pc' := 1) C dX10_sheet_0 1 rfl rfl ?_
  obtain ⟨q1, hq1, h⟩ := ob h
  refine G_cS0 (pc' := 4) C dX10_sheet_1 (tX10_isSheet κ l (RA o) (RB κ o r) a1 q1 hq1) (wS tw_ml_X10_133 tw_st_X10_isSheet tw_co_X10_isSheet tw_in_X10) yd_X10_isSheet rfl rfl rfl (by decide) rfl (Nat.le_of_ble_eq_true rfl) rfl rfl ?_
  refine G_if_eq (tgt := 23) (pc' := 7) C dX10_sheet_4 (by decide) rfl (fun hc => ?_) (fun hc => ?_)
  · replace h := z_ip hc h
    exact G_sub [] rfl (J23 r h)
  · replace h := z_in hc h
    refine G_iload_n (pc' := 8) C dX10_sheet_7 2 rfl rfl ?_
    refine G_if_lt (tgt := 23) (pc' := 11) C dX10_sheet_8 (by decide) rfl (fun hc => ?_) (fun hc => ?_)
    · replace h := z_ip hc h
      exact G_sub [] rfl (J23 r h)
    · replace h := z_in hc h
      refine G_iload_n (pc' := 12) C dX10_sheet_11 2 rfl rfl ?_
      refine G_iconst (pc' := 13) (v := (3 : Int32)) C dX10_sheet_12 (by decide) rfl ?_
      refine G_icmp_gt (tgt := 23) (pc' := 16) C dX10_sheet_13 (by decide) rfl (fun hc => ?_) (fun hc => ?_)
      · replace h := z_ip hc h
        exact G_sub [] rfl (J23 r h)
      · replace h := z_in hc h
        refine G_iload_n (pc' := 17) C dX10_sheet_16 3 rfl rfl ?_
        refine G_sipush (pc' := 20) (v := (256 : Int32)) C dX10_sheet_17 (by decide) rfl ?_
        refine G_icmp_le (tgt := 26) (pc' := 23) C dX10_sheet_20 (by decide) rfl (fun hc => ?_) (fun hc => ?_)
        · replace h := z_ip hc h
          refine G_iload_n (pc' := 27) C dX10_sheet_26 3 rfl rfl ?_
          refine G_if_ge (tgt := 37) (pc' := 30) C dX10_sheet_27 (by decide) rfl (fun hc => ?_) (fun hc => ?_)
          · replace h := z_ip hc h
            refine G_aload_n (pc' := 38) C dX10_sheet_37 0 rfl rfl ?_
            refine R_g_sheetSort (pc' := 41) C dX10_sheet_38 rfl ?_
            refine G_iload_n (pc' := 42) C dX10_sheet_41 1 rfl rfl ?_
            refine G_iload_n (pc' := 43) C dX10_sheet_42 2 rfl rfl ?_
            obtain ⟨r2, hr2, h⟩ := ob h
            refine R_s_sheetSort (pc' := 44) C dX10_sheet_43 hr2 rfl ?_
            refine G_aload_n (pc' := 45) C dX10_sheet_44 0 rfl rfl ?_
            refine R_g_sheetSize (pc' := 48) C dX10_sheet_45 rfl ?_
            refine G_iload_n (pc' := 49) C dX10_sheet_48 1 rfl rfl ?_
            refine G_iload_n (pc' := 50) C dX10_sheet_49 3 rfl rfl ?_
            obtain ⟨r3, hr3, h⟩ := ob h
            refine R_s_sheetSize (pc' := 51) C dX10_sheet_50 hr3 rfl ?_
            refine G_iconst (pc' := 52) (v := (0 : Int32)) C dX10_sheet_51 (by decide) rfl ?_
            refine G_istore (pc' := 54) C dX10_sheet_52 [(4, .int (0 : Int32)), (0, .ref o), (1, .int a1), (2, .int a2), (3, .int a3)] (by decide) rfl rfl ?_
            obtain ⟨e5, hle5, h⟩ := ob h
            refine G_sub (lv' := [(0, .ref o), (1, .int a1), (3, .int a3), (4, .int (0 : Int32))]) [1, 2, 4, 0] rfl ?_
            refine lpN_ind (P := fun u => GR κ p l e s m ([.ref o, .int a1, .int a2, .int a3] : List Value).toArray below meth c rmX10_sheet 5 o (some (Value.int q.1)) (RB κ o q.2) u.2 54 [(0, .ref o), (1, .int a1), (3, .int a3), (4, .int u.1)] []) (X := fun w => GR κ p l e s m ([.ref o, .int a1, .int a2, .int a3] : List Value).toArray below meth c rmX10_sheet 5 o (some (Value.int q.1)) (RB κ o q.2) w 80 [(3, .int a3)] []) (fun u y hb kc kx => tX10_sheet_L54 C hb kc kx) _ _ _ hle5 ?_
            refine G_iload_n (pc' := 81) C dX10_sheet_80 0 rfl rfl ?_
            obtain rfl := Option.some.inj h
            exact G_iret C dX10_sheet_81 (fun _ h => h)
          · replace h := z_in hc h
            refine G_aload_n (pc' := 31) C dX10_sheet_30 0 rfl rfl ?_
            refine G_bipush (pc' := 33) (v := (-13 : Int32)) C dX10_sheet_31 (by decide) rfl ?_
            obtain ⟨q6, hq6, h⟩ := ob h
            refine G_cV0 (pc' := 36) C dX10_sheet_33 (tX10_meet κ l o r (-13 : Int32) q6 hq6) (wV tw_ml_X10_136 tw_im_X10_meet tw_se_X10_X10_meet tw_in_X10 tw_co_X10_meet) yd_X10_meet rfl fi_X10 (RB_rd 0 rfl) rfl rfl (by decide) rfl (Nat.le_of_ble_eq_true rfl) rfl rfl ?_
            obtain rfl := Option.some.inj h
            exact G_iret C dX10_sheet_36 (fun _ h => h)
        · replace h := z_in hc h
          exact G_sub [] rfl (J23 r h)
theorem dX10_lose_0 : decode cX10_lose 0 = .ok (.iload_n 1, 1) := by decide +kernel
theorem dX10_lose_1 : decode cX10_lose 1 = .ok (.invokestatic 133, 3) := by decide +kernel
theorem dX10_lose_4 : decode cX10_lose 4 = .ok (.ifCond .ne 6, 3) := by decide +kernel
theorem dX10_lose_7 : decode cX10_lose 7 = .ok (.bipush (-2), 2) := by decide +kernel
theorem dX10_lose_9 : decode cX10_lose 9 = .ok (.ireturn, 1) := by decide +kernel
theorem dX10_lose_10 : decode cX10_lose 10 = .ok (.aload_n 0, 1) := by decide +kernel
theorem dX10_lose_11 : decode cX10_lose 11 = .ok (.getfield 25, 3) := by decide +kernel
theorem dX10_lose_14 : decode cX10_lose 14 = .ok (.iload_n 1, 1) := by decide +kernel
theorem dX10_lose_15 : decode cX10_lose 15 = .ok (.iaload, 1) := by decide +kernel
theorem dX10_lose_16 : decode cX10_lose 16 = .ok (.ifCond .lt 7, 3) := by decide +kernel
theorem dX10_lose_19 : decode cX10_lose 19 = .ok (.iconst 1, 1) := by decide +kernel
theorem dX10_lose_20 : decode cX10_lose 20 = .ok (.goto 4, 3) := by decide +kernel
theorem dX10_lose_23 : decode cX10_lose 23 = .ok (.iconst 0, 1) := by decide +kernel
theorem dX10_lose_24 : decode cX10_lose 24 = .ok (.istore_n 2, 1) := by decide +kernel
theorem dX10_lose_25 : decode cX10_lose 25 = .ok (.aload_n 0, 1) := by decide +kernel
theorem dX10_lose_26 : decode cX10_lose 26 = .ok (.getfield 25, 3) := by decide +kernel
theorem dX10_lose_29 : decode cX10_lose 29 = .ok (.iload_n 1, 1) := by decide +kernel
theorem dX10_lose_30 : decode cX10_lose 30 = .ok (.iconst (-1), 1) := by decide +kernel
theorem dX10_lose_31 : decode cX10_lose 31 = .ok (.iastore, 1) := by decide +kernel
theorem dX10_lose_32 : decode cX10_lose 32 = .ok (.iload_n 2, 1) := by decide +kernel
theorem dX10_lose_33 : decode cX10_lose 33 = .ok (.ireturn, 1) := by decide +kernel
abbrev rmX10_lose : Room := { frames := 1, cells := 0, slots := 0, locals := 20 }
theorem yd_X10_lose : yX10_lose.cls = RX10 ∧ yX10_lose.cls ≠ "java/lang/invoke/MethodHandle" ∧ yX10_lose.cls ≠ "java/lang/invoke/VarHandle" ∧ (parseMethodDescriptor yX10_lose.desc).map (fun d => d.parameters.length) = some 1 := by decide +kernel
def fX10_lose_J24 (r : RS) (l1 : Int32) (s0 : Int32) : Option (Int32 × RS) :=
  (sA r 5 6 l1 (-1 : Int32)).bind fun r3 =>
  some (s0, r3)
def fX10_lose (r : RS) (a1 : Int32) : Option (Int32 × RS) :=
  (fX10_isSheet a1).bind fun q1 =>
  if q1 = 0 then
    some ((-2 : Int32), r)
  else
    (aI 6 (r.2.1 5) a1).bind fun v2 =>
    if v2 < 0 then
      fX10_lose_J24 r a1 (0 : Int32)
    else
      fX10_lose_J24 r a1 (1 : Int32)
set_option maxHeartbeats 4000000 in
set_option maxRecDepth 100000 in
theorem tX10_lose (κ : KK) (l : Launch) (o : Nat) (r : RS) (a1 : Int32) (q : Int32 × RS) (h : fX10_lose r a1 = some q) : MM κ l yX10_lose cX10_lose 3 (some .int) rmX10_lose (RA o) [.ref o, .int a1] (RB κ o r) (some (Value.int q.1)) (RB κ o q.2) := by
  refine MM.of (by decide +kernel) (Nat.le_of_ble_eq_true rfl) ?_
  intro p e s m below meth c C hnm
  have J24 : ∀ (r : RS) (l1 : Int32) (s0 : Int32), fX10_lose_J24 r l1 s0 = some q → GR κ p l e s m ([.ref o, .int a1] : List Value).toArray below meth c rmX10_lose 3 o (some (Value.int q.1)) (RB κ o q.2) r 24 [(0, .ref o), (1, .int l1)] [.int s0] := by
    intro r l1 s0 h
    unfold fX10_lose_J24 at h
    refine G_istore_n (pc' := 25) C dX10_lose_24 [(2, .int s0), (0, .ref o), (1, .int l1)] (by decide) rfl rfl ?_
    refine G_aload_n (pc' := 26) C dX10_lose_25 1 rfl rfl ?_
    refine R_g_sheetSize (pc' := 29) C dX10_lose_26 rfl ?_
    refine G_iload_n (pc' := 30) C dX10_lose_29 2 rfl rfl ?_
    refine G_iconst (pc' := 31) (v := (-1 : Int32)) C dX10_lose_30 (by decide) rfl ?_
    obtain ⟨r3, hr3, h⟩ := ob h
    refine R_s_sheetSize (pc' := 32) C dX10_lose_31 hr3 rfl ?_
    refine G_iload_n (pc' := 33) C dX10_lose_32 0 rfl rfl ?_
    obtain rfl := Option.some.inj h
    exact G_iret C dX10_lose_33 (fun _ h => h)
  unfold fX10_lose at h
  refine G_sub (lv' := [(0, .ref o), (1, .int a1)]) [0, 1] rfl ?_
  refine G_iload_n (pc' := 1) C dX10_lose_0 1 rfl rfl ?_
  obtain ⟨q1, hq1, h⟩ := ob h
  refine G_cS0 (pc' := 4) C dX10_lose_1 (tX10_isSheet κ l (RA o) (RB κ o r) a1 q1 hq1) (wS tw_ml_X10_133 tw_st_X10_isSheet tw_co_X10_isSheet tw_in_X10) yd_X10_isSheet rfl rfl rfl (by decide) rfl (Nat.le_of_ble_eq_true rfl) rfl rfl ?_
  refine G_if_ne (tgt := 10) (pc' := 7) C dX10_lose_4 (by decide) rfl (fun hc => ?_) (fun hc => ?_)
  · replace h := z_in hc h
    refine G_aload_n (pc' := 11) C dX10_lose_10 0 rfl rfl ?_
    refine R_g_sheetSize (pc' := 14) C dX10_lose_11 rfl ?_
    refine G_iload_n (pc' := 15) C dX10_lose_14 1 rfl rfl ?_
    obtain ⟨v2, hv2, h⟩ := ob h
    refine R_l_sheetSize (pc' := 16) C dX10_lose_15 hv2 rfl ?_
    refine G_if_lt (tgt := 23) (pc' := 19) C dX10_lose_16 (by decide) rfl (fun hc => ?_) (fun hc => ?_)
    · replace h := z_ip hc h
      refine G_iconst (pc' := 24) (v := (0 : Int32)) C dX10_lose_23 (by decide) rfl ?_
      exact G_sub [0, 1] rfl (J24 r a1 (0 : Int32) h)
    · replace h := z_in hc h
      refine G_iconst (pc' := 20) (v := (1 : Int32)) C dX10_lose_19 (by decide) rfl ?_
      refine G_goto (tgt := 24) C dX10_lose_20 (by decide) ?_
      exact G_sub [0, 1] rfl (J24 r a1 (1 : Int32) h)
  · replace h := z_ip hc h
    refine G_bipush (pc' := 9) (v := (-2 : Int32)) C dX10_lose_7 (by decide) rfl ?_
    obtain rfl := Option.some.inj h
    exact G_iret C dX10_lose_9 (fun _ h => h)
theorem dX10_write_0 : decode cX10_write 0 = .ok (.iload_n 1, 1) := by decide +kernel
theorem dX10_write_1 : decode cX10_write 1 = .ok (.invokestatic 133, 3) := by decide +kernel
theorem dX10_write_4 : decode cX10_write 4 = .ok (.ifCond .ne 6, 3) := by decide +kernel
theorem dX10_write_7 : decode cX10_write 7 = .ok (.bipush (-2), 2) := by decide +kernel
theorem dX10_write_9 : decode cX10_write 9 = .ok (.ireturn, 1) := by decide +kernel
theorem dX10_write_10 : decode cX10_write 10 = .ok (.aload_n 0, 1) := by decide +kernel
theorem dX10_write_11 : decode cX10_write 11 = .ok (.getfield 25, 3) := by decide +kernel
theorem dX10_write_14 : decode cX10_write 14 = .ok (.iload_n 1, 1) := by decide +kernel
theorem dX10_write_15 : decode cX10_write 15 = .ok (.iaload, 1) := by decide +kernel
theorem dX10_write_16 : decode cX10_write 16 = .ok (.ifCond .ge 10, 3) := by decide +kernel
theorem dX10_write_19 : decode cX10_write 19 = .ok (.aload_n 0, 1) := by decide +kernel
theorem dX10_write_20 : decode cX10_write 20 = .ok (.bipush (-10), 2) := by decide +kernel
theorem dX10_write_22 : decode cX10_write 22 = .ok (.invokevirtual 136, 3) := by decide +kernel
theorem dX10_write_25 : decode cX10_write 25 = .ok (.ireturn, 1) := by decide +kernel
theorem dX10_write_26 : decode cX10_write 26 = .ok (.iload_n 2, 1) := by decide +kernel
theorem dX10_write_27 : decode cX10_write 27 = .ok (.ifCond .lt 13, 3) := by decide +kernel
theorem dX10_write_30 : decode cX10_write 30 = .ok (.iload_n 2, 1) := by decide +kernel
theorem dX10_write_31 : decode cX10_write 31 = .ok (.aload_n 0, 1) := by decide +kernel
theorem dX10_write_32 : decode cX10_write 32 = .ok (.getfield 25, 3) := by decide +kernel
theorem dX10_write_35 : decode cX10_write 35 = .ok (.iload_n 1, 1) := by decide +kernel
theorem dX10_write_36 : decode cX10_write 36 = .ok (.iaload, 1) := by decide +kernel
theorem dX10_write_37 : decode cX10_write 37 = .ok (.if_icmp .lt 10, 3) := by decide +kernel
theorem dX10_write_40 : decode cX10_write 40 = .ok (.aload_n 0, 1) := by decide +kernel
theorem dX10_write_41 : decode cX10_write 41 = .ok (.bipush (-11), 2) := by decide +kernel
theorem dX10_write_43 : decode cX10_write 43 = .ok (.invokevirtual 136, 3) := by decide +kernel
theorem dX10_write_46 : decode cX10_write 46 = .ok (.ireturn, 1) := by decide +kernel
theorem dX10_write_47 : decode cX10_write 47 = .ok (.aload_n 0, 1) := by decide +kernel
theorem dX10_write_48 : decode cX10_write 48 = .ok (.getfield 22, 3) := by decide +kernel
theorem dX10_write_51 : decode cX10_write 51 = .ok (.iload_n 1, 1) := by decide +kernel
theorem dX10_write_52 : decode cX10_write 52 = .ok (.iaload, 1) := by decide +kernel
theorem dX10_write_53 : decode cX10_write 53 = .ok (.istore 5, 2) := by decide +kernel
theorem dX10_write_55 : decode cX10_write 55 = .ok (.aload_n 0, 1) := by decide +kernel
theorem dX10_write_56 : decode cX10_write 56 = .ok (.getfield 28, 3) := by decide +kernel
theorem dX10_write_59 : decode cX10_write 59 = .ok (.sipush 256, 3) := by decide +kernel
theorem dX10_write_62 : decode cX10_write 62 = .ok (.iload_n 1, 1) := by decide +kernel
theorem dX10_write_63 : decode cX10_write 63 = .ok (.imul, 1) := by decide +kernel
theorem dX10_write_64 : decode cX10_write 64 = .ok (.iload_n 2, 1) := by decide +kernel
theorem dX10_write_65 : decode cX10_write 65 = .ok (.iadd, 1) := by decide +kernel
theorem dX10_write_66 : decode cX10_write 66 = .ok (.iload 5, 2) := by decide +kernel
theorem dX10_write_68 : decode cX10_write 68 = .ok (.ifCond .ne 10, 3) := by decide +kernel
theorem dX10_write_71 : decode cX10_write 71 = .ok (.lload_n 3, 1) := by decide +kernel
theorem dX10_write_72 : decode cX10_write 72 = .ok (.l2i, 1) := by decide +kernel
theorem dX10_write_73 : decode cX10_write 73 = .ok (.i2b, 1) := by decide +kernel
theorem dX10_write_74 : decode cX10_write 74 = .ok (.i2l, 1) := by decide +kernel
theorem dX10_write_75 : decode cX10_write 75 = .ok (.goto 29, 3) := by decide +kernel
theorem dX10_write_78 : decode cX10_write 78 = .ok (.iload 5, 2) := by decide +kernel
theorem dX10_write_80 : decode cX10_write 80 = .ok (.iconst 1, 1) := by decide +kernel
theorem dX10_write_81 : decode cX10_write 81 = .ok (.if_icmp .ne 10, 3) := by decide +kernel
theorem dX10_write_84 : decode cX10_write 84 = .ok (.lload_n 3, 1) := by decide +kernel
theorem dX10_write_85 : decode cX10_write 85 = .ok (.l2i, 1) := by decide +kernel
theorem dX10_write_86 : decode cX10_write 86 = .ok (.i2s, 1) := by decide +kernel
theorem dX10_write_87 : decode cX10_write 87 = .ok (.i2l, 1) := by decide +kernel
theorem dX10_write_88 : decode cX10_write 88 = .ok (.goto 16, 3) := by decide +kernel
theorem dX10_write_91 : decode cX10_write 91 = .ok (.iload 5, 2) := by decide +kernel
theorem dX10_write_93 : decode cX10_write 93 = .ok (.iconst 2, 1) := by decide +kernel
theorem dX10_write_94 : decode cX10_write 94 = .ok (.if_icmp .ne 9, 3) := by decide +kernel
theorem dX10_write_97 : decode cX10_write 97 = .ok (.lload_n 3, 1) := by decide +kernel
theorem dX10_write_98 : decode cX10_write 98 = .ok (.l2i, 1) := by decide +kernel
theorem dX10_write_99 : decode cX10_write 99 = .ok (.i2l, 1) := by decide +kernel
theorem dX10_write_100 : decode cX10_write 100 = .ok (.goto 4, 3) := by decide +kernel
theorem dX10_write_103 : decode cX10_write 103 = .ok (.lload_n 3, 1) := by decide +kernel
theorem dX10_write_104 : decode cX10_write 104 = .ok (.lastore, 1) := by decide +kernel
theorem dX10_write_105 : decode cX10_write 105 = .ok (.aload_n 0, 1) := by decide +kernel
theorem dX10_write_106 : decode cX10_write 106 = .ok (.getfield 25, 3) := by decide +kernel
theorem dX10_write_109 : decode cX10_write 109 = .ok (.iload_n 1, 1) := by decide +kernel
theorem dX10_write_110 : decode cX10_write 110 = .ok (.iaload, 1) := by decide +kernel
theorem dX10_write_111 : decode cX10_write 111 = .ok (.ireturn, 1) := by decide +kernel
abbrev rmX10_write : Room := { frames := 1, cells := 0, slots := 0, locals := 21 }
theorem yd_X10_write : yX10_write.cls = RX10 ∧ yX10_write.cls ≠ "java/lang/invoke/MethodHandle" ∧ yX10_write.cls ≠ "java/lang/invoke/VarHandle" ∧ (parseMethodDescriptor yX10_write.desc).map (fun d => d.parameters.length) = some 3 := by decide +kernel
def fX10_write_J104 (r : RS) (l1 : Int32) (s0 : Int64) (s1 : Int32) : Option (Int32 × RS) :=
  (sL r 6 1536 s1 s0).bind fun r6 =>
  (aI 6 (r6.2.1 5) l1).bind fun v7 =>
  some (v7, r6)
def fX10_write_J40 (r : RS) : Option (Int32 × RS) :=
  (fX10_meet r (-11 : Int32)).bind fun q3 =>
  some (q3.1, q3.2)
def fX10_write (r : RS) (a1 : Int32) (a2 : Int32) (a3 : Int64) : Option (Int32 × RS) :=
  (fX10_isSheet a1).bind fun q1 =>
  if q1 = 0 then
    some ((-2 : Int32), r)
  else
    (aI 6 (r.2.1 5) a1).bind fun v2 =>
    if 0 ≤ v2 then
      if a2 < 0 then
        fX10_write_J40 r
      else
        (aI 6 (r.2.1 5) a1).bind fun v4 =>
        if a2 < v4 then
          (aI 6 (r.2.1 4) a1).bind fun v5 =>
          if v5 = 0 then
            fX10_write_J104 r a1 (Int32.toInt64 (Int8.toInt32 (Int32.toInt8 (Int64.toInt32 a3)))) (((256 : Int32) * a1) + a2)
          else
            if v5 = (1 : Int32) then
              fX10_write_J104 r a1 (Int32.toInt64 (Int16.toInt32 (Int32.toInt16 (Int64.toInt32 a3)))) (((256 : Int32) * a1) + a2)
            else
              if v5 = (2 : Int32) then
                fX10_write_J104 r a1 (Int32.toInt64 (Int64.toInt32 a3)) (((256 : Int32) * a1) + a2)
              else
                fX10_write_J104 r a1 a3 (((256 : Int32) * a1) + a2)
        else
          fX10_write_J40 r
    else
      (fX10_meet r (-10 : Int32)).bind fun q8 =>
      some (q8.1, q8.2)
set_option maxHeartbeats 4000000 in
set_option maxRecDepth 100000 in
theorem tX10_write (κ : KK) (l : Launch) (o : Nat) (r : RS) (a1 : Int32) (a2 : Int32) (a3 : Int64) (q : Int32 × RS) (h : fX10_write r a1 a2 a3 = some q) : MM κ l yX10_write cX10_write 6 (some .int) rmX10_write (RA o) [.ref o, .int a1, .int a2, .long a3] (RB κ o r) (some (Value.int q.1)) (RB κ o q.2) := by
  refine MM.of (by decide +kernel) (Nat.le_of_ble_eq_true rfl) ?_
  intro p e s m below meth c C hnm
  have J104 : ∀ (r : RS) (l1 : Int32) (s0 : Int64) (s1 : Int32), fX10_write_J104 r l1 s0 s1 = some q → GR κ p l e s m ([.ref o, .int a1, .int a2, .long a3] : List Value).toArray below meth c rmX10_write 6 o (some (Value.int q.1)) (RB κ o q.2) r 104 [(0, .ref o), (1, .int l1)] [.long s0, .int s1, .ref (o + 7)] := by
    intro r l1 s0 s1 h
    unfold fX10_write_J104 at h
    obtain ⟨r6, hr6, h⟩ := ob h
    refine R_s_sheet (pc' := 105) C dX10_write_104 hr6 rfl ?_
    refine G_aload_n (pc' := 106) C dX10_write_105 0 rfl rfl ?_
    refine R_g_sheetSize (pc' := 109) C dX10_write_106 rfl ?_
    refine G_iload_n (pc' := 110) C dX10_write_109 1 rfl rfl ?_
    obtain ⟨v7, hv7, h⟩ := ob h
    refine R_l_sheetSize (pc' := 111) C dX10_write_110 hv7 rfl ?_
    obtain rfl := Option.some.inj h
    exact G_iret C dX10_write_111 (fun _ h => h)
  have J40 : ∀ (r : RS), fX10_write_J40 r = some q → GR κ p l e s m ([.ref o, .int a1, .int a2, .long a3] : List Value).toArray below meth c rmX10_write 6 o (some (Value.int q.1)) (RB κ o q.2) r 40 [(0, .ref o)] [] := by
    intro r h
    unfold fX10_write_J40 at h
    refine G_aload_n (pc' := 41) C dX10_write_40 0 rfl rfl ?_
    refine G_bipush (pc' := 43) (v := (-11 : Int32)) C dX10_write_41 (by decide) rfl ?_
    obtain ⟨q3, hq3, h⟩ := ob h
    refine G_cV0 (pc' := 46) C dX10_write_43 (tX10_meet κ l o r (-11 : Int32) q3 hq3) (wV tw_ml_X10_136 tw_im_X10_meet tw_se_X10_X10_meet tw_in_X10 tw_co_X10_meet) yd_X10_meet rfl fi_X10 (RB_rd 0 rfl) rfl rfl (by decide) rfl (Nat.le_of_ble_eq_true rfl) rfl rfl ?_
    obtain rfl := Option.some.inj h
    exact G_iret C dX10_write_46 (fun _ h => h)
  unfold fX10_write at h
  refine G_sub (lv' := [(0, .ref o), (1, .int a1), (2, .int a2), (3, .long a3)]) [0, 1, 2, 3] rfl ?_
  refine G_iload_n (pc' := 1) C dX10_write_0 1 rfl rfl ?_
  obtain ⟨q1, hq1, h⟩ := ob h
  refine G_cS0 (pc' := 4) C dX10_write_1 (tX10_isSheet κ l (RA o) (RB κ o r) a1 q1 hq1) (wS tw_ml_X10_133 tw_st_X10_isSheet tw_co_X10_isSheet tw_in_X10) yd_X10_isSheet rfl rfl rfl (by decide) rfl (Nat.le_of_ble_eq_true rfl) rfl rfl ?_
  refine G_if_ne (tgt := 10) (pc' := 7) C dX10_write_4 (by decide) rfl (fun hc => ?_) (fun hc => ?_)
  · replace h := z_in hc h
    refine G_aload_n (pc' := 11) C dX10_write_10 0 rfl rfl ?_
    refine R_g_sheetSize (pc' := 14) C dX10_write_11 rfl ?_
    refine G_iload_n (pc' := 15) C dX10_write_14 1 rfl rfl ?_
    obtain ⟨v2, hv2, h⟩ := ob h
    refine R_l_sheetSize (pc' := 16) C dX10_write_15 hv2 rfl ?_
    refine G_if_ge (tgt := 26) (pc' := 19) C dX10_write_16 (by decide) rfl (fun hc => ?_) (fun hc => ?_)
    · replace h := z_ip hc h
      refine G_iload_n (pc' := 27) C dX10_write_26 2 rfl rfl ?_
      refine G_if_lt (tgt := 40) (pc' := 30) C dX10_write_27 (by decide) rfl (fun hc => ?_) (fun hc => ?_)
      · replace h := z_ip hc h
        exact G_sub [0] rfl (J40 r h)
      · replace h := z_in hc h
        refine G_iload_n (pc' := 31) C dX10_write_30 2 rfl rfl ?_
        refine G_aload_n (pc' := 32) C dX10_write_31 0 rfl rfl ?_
        refine R_g_sheetSize (pc' := 35) C dX10_write_32 rfl ?_
        refine G_iload_n (pc' := 36) C dX10_write_35 1 rfl rfl ?_
        obtain ⟨v4, hv4, h⟩ := ob h
        refine R_l_sheetSize (pc' := 37) C dX10_write_36 hv4 rfl ?_
        refine G_icmp_lt (tgt := 47) (pc' := 40) C dX10_write_37 (by decide) rfl (fun hc => ?_) (fun hc => ?_)
        · replace h := z_ip hc h
          refine G_aload_n (pc' := 48) C dX10_write_47 0 rfl rfl ?_
          refine R_g_sheetSort (pc' := 51) C dX10_write_48 rfl ?_
          refine G_iload_n (pc' := 52) C dX10_write_51 1 rfl rfl ?_
          obtain ⟨v5, hv5, h⟩ := ob h
          refine R_l_sheetSort (pc' := 53) C dX10_write_52 hv5 rfl ?_
          refine G_istore (pc' := 55) C dX10_write_53 [(5, .int v5), (0, .ref o), (1, .int a1), (2, .int a2), (3, .long a3)] (by decide) rfl rfl ?_
          refine G_aload_n (pc' := 56) C dX10_write_55 1 rfl rfl ?_
          refine R_g_sheet (pc' := 59) C dX10_write_56 rfl ?_
          refine G_sipush (pc' := 62) (v := (256 : Int32)) C dX10_write_59 (by decide) rfl ?_
          refine G_iload_n (pc' := 63) C dX10_write_62 2 rfl rfl ?_
          refine G_imul (pc' := 64) C dX10_write_63 rfl ?_
          refine G_iload_n (pc' := 65) C dX10_write_64 3 rfl rfl ?_
          refine G_iadd (pc' := 66) C dX10_write_65 rfl ?_
          refine G_iload (pc' := 68) C dX10_write_66 0 rfl rfl ?_
          refine G_if_ne (tgt := 78) (pc' := 71) C dX10_write_68 (by decide) rfl (fun hc => ?_) (fun hc => ?_)
          · replace h := z_in hc h
            refine G_iload (pc' := 80) C dX10_write_78 0 rfl rfl ?_
            refine G_iconst (pc' := 81) (v := (1 : Int32)) C dX10_write_80 (by decide) rfl ?_
            refine G_icmp_ne (tgt := 91) (pc' := 84) C dX10_write_81 (by decide) rfl (fun hc => ?_) (fun hc => ?_)
            · replace h := z_in hc h
              refine G_iload (pc' := 93) C dX10_write_91 0 rfl rfl ?_
              refine G_iconst (pc' := 94) (v := (2 : Int32)) C dX10_write_93 (by decide) rfl ?_
              refine G_icmp_ne (tgt := 103) (pc' := 97) C dX10_write_94 (by decide) rfl (fun hc => ?_) (fun hc => ?_)
              · replace h := z_in hc h
                refine G_lload_n (pc' := 104) C dX10_write_103 4 rfl rfl ?_
                exact G_sub [1, 2] rfl (J104 r a1 a3 (((256 : Int32) * a1) + a2) h)
              · replace h := z_ip hc h
                refine G_lload_n (pc' := 98) C dX10_write_97 4 rfl rfl ?_
                refine G_l2i (pc' := 99) C dX10_write_98 rfl ?_
                refine G_i2l (pc' := 100) C dX10_write_99 rfl ?_
                refine G_goto (tgt := 104) C dX10_write_100 (by decide) ?_
                exact G_sub [1, 2] rfl (J104 r a1 (Int32.toInt64 (Int64.toInt32 a3)) (((256 : Int32) * a1) + a2) h)
            · replace h := z_ip hc h
              refine G_lload_n (pc' := 85) C dX10_write_84 4 rfl rfl ?_
              refine G_l2i (pc' := 86) C dX10_write_85 rfl ?_
              refine G_i2s (pc' := 87) C dX10_write_86 rfl ?_
              refine G_i2l (pc' := 88) C dX10_write_87 rfl ?_
              refine G_goto (tgt := 104) C dX10_write_88 (by decide) ?_
              exact G_sub [1, 2] rfl (J104 r a1 (Int32.toInt64 (Int16.toInt32 (Int32.toInt16 (Int64.toInt32 a3)))) (((256 : Int32) * a1) + a2) h)
          · replace h := z_ip hc h
            refine G_lload_n (pc' := 72) C dX10_write_71 4 rfl rfl ?_
            refine G_l2i (pc' := 73) C dX10_write_72 rfl ?_
            refine G_i2b (pc' := 74) C dX10_write_73 rfl ?_
            refine G_i2l (pc' := 75) C dX10_write_74 rfl ?_
            refine G_goto (tgt := 104) C dX10_write_75 (by decide) ?_
            exact G_sub [1, 2] rfl (J104 r a1 (Int32.toInt64 (Int8.toInt32 (Int32.toInt8 (Int64.toInt32 a3)))) (((256 : Int32) * a1) + a2) h)
        · replace h := z_in hc h
          exact G_sub [0] rfl (J40 r h)
    · replace h := z_in hc h
      refine G_aload_n (pc' := 20) C dX10_write_19 0 rfl rfl ?_
      refine G_bipush (pc' := 22) (v := (-10 : Int32)) C dX10_write_20 (by decide) rfl ?_
      obtain ⟨q8, hq8, h⟩ := ob h
      refine G_cV0 (pc' := 25) C dX10_write_22 (tX10_meet κ l o r (-10 : Int32) q8 hq8) (wV tw_ml_X10_136 tw_im_X10_meet tw_se_X10_X10_meet tw_in_X10 tw_co_X10_meet) yd_X10_meet rfl fi_X10 (RB_rd 0 rfl) rfl rfl (by decide) rfl (Nat.le_of_ble_eq_true rfl) rfl rfl ?_
      obtain rfl := Option.some.inj h
      exact G_iret C dX10_write_25 (fun _ h => h)
  · replace h := z_ip hc h
    refine G_bipush (pc' := 9) (v := (-2 : Int32)) C dX10_write_7 (by decide) rfl ?_
    obtain rfl := Option.some.inj h
    exact G_iret C dX10_write_9 (fun _ h => h)
theorem dX10_look_0 : decode cX10_look 0 = .ok (.iload_n 1, 1) := by decide +kernel
theorem dX10_look_1 : decode cX10_look 1 = .ok (.invokestatic 133, 3) := by decide +kernel
theorem dX10_look_4 : decode cX10_look 4 = .ok (.ifCond .eq 12, 3) := by decide +kernel
theorem dX10_look_7 : decode cX10_look 7 = .ok (.iload_n 2, 1) := by decide +kernel
theorem dX10_look_8 : decode cX10_look 8 = .ok (.ifCond .lt 8, 3) := by decide +kernel
theorem dX10_look_11 : decode cX10_look 11 = .ok (.iload_n 2, 1) := by decide +kernel
theorem dX10_look_12 : decode cX10_look 12 = .ok (.iconst 3, 1) := by decide +kernel
theorem dX10_look_13 : decode cX10_look 13 = .ok (.if_icmp .le 6, 3) := by decide +kernel
theorem dX10_look_16 : decode cX10_look 16 = .ok (.bipush (-2), 2) := by decide +kernel
theorem dX10_look_18 : decode cX10_look 18 = .ok (.ireturn, 1) := by decide +kernel
theorem dX10_look_19 : decode cX10_look 19 = .ok (.aload_n 0, 1) := by decide +kernel
theorem dX10_look_20 : decode cX10_look 20 = .ok (.getfield 25, 3) := by decide +kernel
theorem dX10_look_23 : decode cX10_look 23 = .ok (.iload_n 1, 1) := by decide +kernel
theorem dX10_look_24 : decode cX10_look 24 = .ok (.iaload, 1) := by decide +kernel
theorem dX10_look_25 : decode cX10_look 25 = .ok (.ifCond .ge 10, 3) := by decide +kernel
theorem dX10_look_28 : decode cX10_look 28 = .ok (.aload_n 0, 1) := by decide +kernel
theorem dX10_look_29 : decode cX10_look 29 = .ok (.bipush (-10), 2) := by decide +kernel
theorem dX10_look_31 : decode cX10_look 31 = .ok (.invokevirtual 136, 3) := by decide +kernel
theorem dX10_look_34 : decode cX10_look 34 = .ok (.ireturn, 1) := by decide +kernel
theorem dX10_look_35 : decode cX10_look 35 = .ok (.aload_n 0, 1) := by decide +kernel
theorem dX10_look_36 : decode cX10_look 36 = .ok (.getfield 22, 3) := by decide +kernel
theorem dX10_look_39 : decode cX10_look 39 = .ok (.iload_n 1, 1) := by decide +kernel
theorem dX10_look_40 : decode cX10_look 40 = .ok (.iaload, 1) := by decide +kernel
theorem dX10_look_41 : decode cX10_look 41 = .ok (.iload_n 2, 1) := by decide +kernel
theorem dX10_look_42 : decode cX10_look 42 = .ok (.if_icmp .eq 10, 3) := by decide +kernel
theorem dX10_look_45 : decode cX10_look 45 = .ok (.aload_n 0, 1) := by decide +kernel
theorem dX10_look_46 : decode cX10_look 46 = .ok (.bipush (-12), 2) := by decide +kernel
theorem dX10_look_48 : decode cX10_look 48 = .ok (.invokevirtual 136, 3) := by decide +kernel
theorem dX10_look_51 : decode cX10_look 51 = .ok (.ireturn, 1) := by decide +kernel
theorem dX10_look_52 : decode cX10_look 52 = .ok (.iload_n 3, 1) := by decide +kernel
theorem dX10_look_53 : decode cX10_look 53 = .ok (.ifCond .lt 13, 3) := by decide +kernel
theorem dX10_look_56 : decode cX10_look 56 = .ok (.iload_n 3, 1) := by decide +kernel
theorem dX10_look_57 : decode cX10_look 57 = .ok (.aload_n 0, 1) := by decide +kernel
theorem dX10_look_58 : decode cX10_look 58 = .ok (.getfield 25, 3) := by decide +kernel
theorem dX10_look_61 : decode cX10_look 61 = .ok (.iload_n 1, 1) := by decide +kernel
theorem dX10_look_62 : decode cX10_look 62 = .ok (.iaload, 1) := by decide +kernel
theorem dX10_look_63 : decode cX10_look 63 = .ok (.if_icmp .lt 10, 3) := by decide +kernel
theorem dX10_look_66 : decode cX10_look 66 = .ok (.aload_n 0, 1) := by decide +kernel
theorem dX10_look_67 : decode cX10_look 67 = .ok (.bipush (-11), 2) := by decide +kernel
theorem dX10_look_69 : decode cX10_look 69 = .ok (.invokevirtual 136, 3) := by decide +kernel
theorem dX10_look_72 : decode cX10_look 72 = .ok (.ireturn, 1) := by decide +kernel
theorem dX10_look_73 : decode cX10_look 73 = .ok (.aload_n 0, 1) := by decide +kernel
theorem dX10_look_74 : decode cX10_look 74 = .ok (.getfield 28, 3) := by decide +kernel
theorem dX10_look_77 : decode cX10_look 77 = .ok (.sipush 256, 3) := by decide +kernel
theorem dX10_look_80 : decode cX10_look 80 = .ok (.iload_n 1, 1) := by decide +kernel
theorem dX10_look_81 : decode cX10_look 81 = .ok (.imul, 1) := by decide +kernel
theorem dX10_look_82 : decode cX10_look 82 = .ok (.iload_n 3, 1) := by decide +kernel
theorem dX10_look_83 : decode cX10_look 83 = .ok (.iadd, 1) := by decide +kernel
theorem dX10_look_84 : decode cX10_look 84 = .ok (.laload, 1) := by decide +kernel
theorem dX10_look_85 : decode cX10_look 85 = .ok (.lstore 4, 2) := by decide +kernel
theorem dX10_look_87 : decode cX10_look 87 = .ok (.lload 4, 2) := by decide +kernel
theorem dX10_look_89 : decode cX10_look 89 = .ok (.lconst 0, 1) := by decide +kernel
theorem dX10_look_90 : decode cX10_look 90 = .ok (.lcmp, 1) := by decide +kernel
theorem dX10_look_91 : decode cX10_look 91 = .ok (.ifCond .le 7, 3) := by decide +kernel
theorem dX10_look_94 : decode cX10_look 94 = .ok (.iconst 1, 1) := by decide +kernel
theorem dX10_look_95 : decode cX10_look 95 = .ok (.goto 15, 3) := by decide +kernel
theorem dX10_look_98 : decode cX10_look 98 = .ok (.lload 4, 2) := by decide +kernel
theorem dX10_look_100 : decode cX10_look 100 = .ok (.lconst 0, 1) := by decide +kernel
theorem dX10_look_101 : decode cX10_look 101 = .ok (.lcmp, 1) := by decide +kernel
theorem dX10_look_102 : decode cX10_look 102 = .ok (.ifCond .ne 7, 3) := by decide +kernel
theorem dX10_look_105 : decode cX10_look 105 = .ok (.iconst 2, 1) := by decide +kernel
theorem dX10_look_106 : decode cX10_look 106 = .ok (.goto 4, 3) := by decide +kernel
theorem dX10_look_109 : decode cX10_look 109 = .ok (.iconst 3, 1) := by decide +kernel
theorem dX10_look_110 : decode cX10_look 110 = .ok (.ireturn, 1) := by decide +kernel
abbrev rmX10_look : Room := { frames := 1, cells := 0, slots := 0, locals := 21 }
theorem yd_X10_look : yX10_look.cls = RX10 ∧ yX10_look.cls ≠ "java/lang/invoke/MethodHandle" ∧ yX10_look.cls ≠ "java/lang/invoke/VarHandle" ∧ (parseMethodDescriptor yX10_look.desc).map (fun d => d.parameters.length) = some 3 := by decide +kernel
def fX10_look_J66 (r : RS) : Option (Int32 × RS) :=
  (fX10_meet r (-11 : Int32)).bind fun q4 =>
  some (q4.1, q4.2)
def fX10_look_J16 (r : RS) : Option (Int32 × RS) :=
  some ((-2 : Int32), r)
def fX10_look (r : RS) (a1 : Int32) (a2 : Int32) (a3 : Int32) : Option (Int32 × RS) :=
  (fX10_isSheet a1).bind fun q1 =>
  if q1 = 0 then
    fX10_look_J16 r
  else
    if a2 < 0 then
      fX10_look_J16 r
    else
      if a2 ≤ (3 : Int32) then
        (aI 6 (r.2.1 5) a1).bind fun v2 =>
        if 0 ≤ v2 then
          (aI 6 (r.2.1 4) a1).bind fun v3 =>
          if v3 = a2 then
            if a3 < 0 then
              fX10_look_J66 r
            else
              (aI 6 (r.2.1 5) a1).bind fun v5 =>
              if a3 < v5 then
                (aL 1536 (r.2.2 6) (((256 : Int32) * a1) + a3)).bind fun v6 =>
                if (lg_cmp v6 (0 : Int64)) ≤ 0 then
                  if (lg_cmp v6 (0 : Int64)) = 0 then
                    some ((2 : Int32), r)
                  else
                    some ((3 : Int32), r)
                else
                  some ((1 : Int32), r)
              else
                fX10_look_J66 r
          else
            (fX10_meet r (-12 : Int32)).bind fun q7 =>
            some (q7.1, q7.2)
        else
          (fX10_meet r (-10 : Int32)).bind fun q8 =>
          some (q8.1, q8.2)
      else
        fX10_look_J16 r
set_option maxHeartbeats 4000000 in
set_option maxRecDepth 100000 in
theorem tX10_look (κ : KK) (l : Launch) (o : Nat) (r : RS) (a1 : Int32) (a2 : Int32) (a3 : Int32) (q : Int32 × RS) (h : fX10_look r a1 a2 a3 = some q) : MM κ l yX10_look cX10_look 6 (some .int) rmX10_look (RA o) [.ref o, .int a1, .int a2, .int a3] (RB κ o r) (some (Value.int q.1)) (RB κ o q.2) := by
  refine MM.of (by decide +kernel) (Nat.le_of_ble_eq_true rfl) ?_
  intro p e s m below meth c C hnm
  have J66 : ∀ (r : RS), fX10_look_J66 r = some q → GR κ p l e s m ([.ref o, .int a1, .int a2, .int a3] : List Value).toArray below meth c rmX10_look 6 o (some (Value.int q.1)) (RB κ o q.2) r 66 [(0, .ref o)] [] := by
    intro r h
    unfold fX10_look_J66 at h
    refine G_aload_n (pc' := 67) C dX10_look_66 0 rfl rfl ?_
    refine G_bipush (pc' := 69) (v := (-11 : Int32)) C dX10_look_67 (by decide) rfl ?_
    obtain ⟨q4, hq4, h⟩ := ob h
    refine G_cV0 (pc' := 72) C dX10_look_69 (tX10_meet κ l o r (-11 : Int32) q4 hq4) (wV tw_ml_X10_136 tw_im_X10_meet tw_se_X10_X10_meet tw_in_X10 tw_co_X10_meet) yd_X10_meet rfl fi_X10 (RB_rd 0 rfl) rfl rfl (by decide) rfl (Nat.le_of_ble_eq_true rfl) rfl rfl ?_
    obtain rfl := Option.some.inj h
    exact G_iret C dX10_look_72 (fun _ h => h)
  have J16 : ∀ (r : RS), fX10_look_J16 r = some q → GR κ p l e s m ([.ref o, .int a1, .int a2, .int a3] : List Value).toArray below meth c rmX10_look 6 o (some (Value.int q.1)) (RB κ o q.2) r 16 [] [] := by
    intro r h
    unfold fX10_look_J16 at h
    refine G_bipush (pc' := 18) (v := (-2 : Int32)) C dX10_look_16 (by decide) rfl ?_
    obtain rfl := Option.some.inj h
    exact G_iret C dX10_look_18 (fun _ h => h)
  unfold fX10_look at h
  refine G_sub (lv' := [(0, .ref o), (1, .int a1), (2, .int a2), (3, .int a3)]) [0, 1, 2, 3] rfl ?_
  refine G_iload_n (pc' := 1) C dX10_look_0 1 rfl rfl ?_
  obtain ⟨q1, hq1, h⟩ := ob h
  refine G_cS0 (pc' := 4) C dX10_look_1 (tX10_isSheet κ l (RA o) (RB κ o r) a1 q1 hq1) (wS tw_ml_X10_133 tw_st_X10_isSheet tw_co_X10_isSheet tw_in_X10) yd_X10_isSheet rfl rfl rfl (by decide) rfl (Nat.le_of_ble_eq_true rfl) rfl rfl ?_
  refine G_if_eq (tgt := 16) (pc' := 7) C dX10_look_4 (by decide) rfl (fun hc => ?_) (fun hc => ?_)
  · replace h := z_ip hc h
    exact G_sub [] rfl (J16 r h)
  · replace h := z_in hc h
    refine G_iload_n (pc' := 8) C dX10_look_7 2 rfl rfl ?_
    refine G_if_lt (tgt := 16) (pc' := 11) C dX10_look_8 (by decide) rfl (fun hc => ?_) (fun hc => ?_)
    · replace h := z_ip hc h
      exact G_sub [] rfl (J16 r h)
    · replace h := z_in hc h
      refine G_iload_n (pc' := 12) C dX10_look_11 2 rfl rfl ?_
      refine G_iconst (pc' := 13) (v := (3 : Int32)) C dX10_look_12 (by decide) rfl ?_
      refine G_icmp_le (tgt := 19) (pc' := 16) C dX10_look_13 (by decide) rfl (fun hc => ?_) (fun hc => ?_)
      · replace h := z_ip hc h
        refine G_aload_n (pc' := 20) C dX10_look_19 0 rfl rfl ?_
        refine R_g_sheetSize (pc' := 23) C dX10_look_20 rfl ?_
        refine G_iload_n (pc' := 24) C dX10_look_23 1 rfl rfl ?_
        obtain ⟨v2, hv2, h⟩ := ob h
        refine R_l_sheetSize (pc' := 25) C dX10_look_24 hv2 rfl ?_
        refine G_if_ge (tgt := 35) (pc' := 28) C dX10_look_25 (by decide) rfl (fun hc => ?_) (fun hc => ?_)
        · replace h := z_ip hc h
          refine G_aload_n (pc' := 36) C dX10_look_35 0 rfl rfl ?_
          refine R_g_sheetSort (pc' := 39) C dX10_look_36 rfl ?_
          refine G_iload_n (pc' := 40) C dX10_look_39 1 rfl rfl ?_
          obtain ⟨v3, hv3, h⟩ := ob h
          refine R_l_sheetSort (pc' := 41) C dX10_look_40 hv3 rfl ?_
          refine G_iload_n (pc' := 42) C dX10_look_41 2 rfl rfl ?_
          refine G_icmp_eq (tgt := 52) (pc' := 45) C dX10_look_42 (by decide) rfl (fun hc => ?_) (fun hc => ?_)
          · replace h := z_ip hc h
            refine G_iload_n (pc' := 53) C dX10_look_52 3 rfl rfl ?_
            refine G_if_lt (tgt := 66) (pc' := 56) C dX10_look_53 (by decide) rfl (fun hc => ?_) (fun hc => ?_)
            · replace h := z_ip hc h
              exact G_sub [0] rfl (J66 r h)
            · replace h := z_in hc h
              refine G_iload_n (pc' := 57) C dX10_look_56 3 rfl rfl ?_
              refine G_aload_n (pc' := 58) C dX10_look_57 0 rfl rfl ?_
              refine R_g_sheetSize (pc' := 61) C dX10_look_58 rfl ?_
              refine G_iload_n (pc' := 62) C dX10_look_61 1 rfl rfl ?_
              obtain ⟨v5, hv5, h⟩ := ob h
              refine R_l_sheetSize (pc' := 63) C dX10_look_62 hv5 rfl ?_
              refine G_icmp_lt (tgt := 73) (pc' := 66) C dX10_look_63 (by decide) rfl (fun hc => ?_) (fun hc => ?_)
              · replace h := z_ip hc h
                refine G_aload_n (pc' := 74) C dX10_look_73 0 rfl rfl ?_
                refine R_g_sheet (pc' := 77) C dX10_look_74 rfl ?_
                refine G_sipush (pc' := 80) (v := (256 : Int32)) C dX10_look_77 (by decide) rfl ?_
                refine G_iload_n (pc' := 81) C dX10_look_80 1 rfl rfl ?_
                refine G_imul (pc' := 82) C dX10_look_81 rfl ?_
                refine G_iload_n (pc' := 83) C dX10_look_82 3 rfl rfl ?_
                refine G_iadd (pc' := 84) C dX10_look_83 rfl ?_
                obtain ⟨v6, hv6, h⟩ := ob h
                refine R_l_sheet (pc' := 85) C dX10_look_84 hv6 rfl ?_
                refine G_lstore (pc' := 87) C dX10_look_85 [(4, .long v6), (0, .ref o), (1, .int a1), (2, .int a2), (3, .int a3)] (by decide) rfl rfl ?_
                refine G_lload (pc' := 89) C dX10_look_87 0 rfl rfl ?_
                refine G_lconst (pc' := 90) (v := (0 : Int64)) C dX10_look_89 (by decide) rfl ?_
                refine G_lcmp (pc' := 91) C dX10_look_90 rfl ?_
                refine G_if_le (tgt := 98) (pc' := 94) C dX10_look_91 (by decide) rfl (fun hc => ?_) (fun hc => ?_)
                · replace h := z_ip hc h
                  refine G_lload (pc' := 100) C dX10_look_98 0 rfl rfl ?_
                  refine G_lconst (pc' := 101) (v := (0 : Int64)) C dX10_look_100 (by decide) rfl ?_
                  refine G_lcmp (pc' := 102) C dX10_look_101 rfl ?_
                  refine G_if_ne (tgt := 109) (pc' := 105) C dX10_look_102 (by decide) rfl (fun hc => ?_) (fun hc => ?_)
                  · replace h := z_in hc h
                    refine G_iconst (pc' := 110) (v := (3 : Int32)) C dX10_look_109 (by decide) rfl ?_
                    obtain rfl := Option.some.inj h
                    exact G_iret C dX10_look_110 (fun _ h => h)
                  · replace h := z_ip hc h
                    refine G_iconst (pc' := 106) (v := (2 : Int32)) C dX10_look_105 (by decide) rfl ?_
                    refine G_goto (tgt := 110) C dX10_look_106 (by decide) ?_
                    obtain rfl := Option.some.inj h
                    exact G_iret C dX10_look_110 (fun _ h => h)
                · replace h := z_in hc h
                  refine G_iconst (pc' := 95) (v := (1 : Int32)) C dX10_look_94 (by decide) rfl ?_
                  refine G_goto (tgt := 110) C dX10_look_95 (by decide) ?_
                  obtain rfl := Option.some.inj h
                  exact G_iret C dX10_look_110 (fun _ h => h)
              · replace h := z_in hc h
                exact G_sub [0] rfl (J66 r h)
          · replace h := z_in hc h
            refine G_aload_n (pc' := 46) C dX10_look_45 0 rfl rfl ?_
            refine G_bipush (pc' := 48) (v := (-12 : Int32)) C dX10_look_46 (by decide) rfl ?_
            obtain ⟨q7, hq7, h⟩ := ob h
            refine G_cV0 (pc' := 51) C dX10_look_48 (tX10_meet κ l o r (-12 : Int32) q7 hq7) (wV tw_ml_X10_136 tw_im_X10_meet tw_se_X10_X10_meet tw_in_X10 tw_co_X10_meet) yd_X10_meet rfl fi_X10 (RB_rd 0 rfl) rfl rfl (by decide) rfl (Nat.le_of_ble_eq_true rfl) rfl rfl ?_
            obtain rfl := Option.some.inj h
            exact G_iret C dX10_look_51 (fun _ h => h)
        · replace h := z_in hc h
          refine G_aload_n (pc' := 29) C dX10_look_28 0 rfl rfl ?_
          refine G_bipush (pc' := 31) (v := (-10 : Int32)) C dX10_look_29 (by decide) rfl ?_
          obtain ⟨q8, hq8, h⟩ := ob h
          refine G_cV0 (pc' := 34) C dX10_look_31 (tX10_meet κ l o r (-10 : Int32) q8 hq8) (wV tw_ml_X10_136 tw_im_X10_meet tw_se_X10_X10_meet tw_in_X10 tw_co_X10_meet) yd_X10_meet rfl fi_X10 (RB_rd 0 rfl) rfl rfl (by decide) rfl (Nat.le_of_ble_eq_true rfl) rfl rfl ?_
          obtain rfl := Option.some.inj h
          exact G_iret C dX10_look_34 (fun _ h => h)
      · replace h := z_in hc h
        exact G_sub [] rfl (J16 r h)
theorem dX10_hasPart_0 : decode cX10_hasPart 0 = .ok (.iload_n 2, 1) := by decide +kernel
theorem dX10_hasPart_1 : decode cX10_hasPart 1 = .ok (.ifCond .lt 33, 3) := by decide +kernel
theorem dX10_hasPart_4 : decode cX10_hasPart 4 = .ok (.iload_n 3, 1) := by decide +kernel
theorem dX10_hasPart_5 : decode cX10_hasPart 5 = .ok (.ifCond .lt 29, 3) := by decide +kernel
theorem dX10_hasPart_8 : decode cX10_hasPart 8 = .ok (.iload_n 3, 1) := by decide +kernel
theorem dX10_hasPart_9 : decode cX10_hasPart 9 = .ok (.aload_n 0, 1) := by decide +kernel
theorem dX10_hasPart_10 : decode cX10_hasPart 10 = .ok (.getfield 25, 3) := by decide +kernel
theorem dX10_hasPart_13 : decode cX10_hasPart 13 = .ok (.iload_n 1, 1) := by decide +kernel
theorem dX10_hasPart_14 : decode cX10_hasPart 14 = .ok (.iaload, 1) := by decide +kernel
theorem dX10_hasPart_15 : decode cX10_hasPart 15 = .ok (.if_icmp .gt 19, 3) := by decide +kernel
theorem dX10_hasPart_18 : decode cX10_hasPart 18 = .ok (.iload_n 2, 1) := by decide +kernel
theorem dX10_hasPart_19 : decode cX10_hasPart 19 = .ok (.aload_n 0, 1) := by decide +kernel
theorem dX10_hasPart_20 : decode cX10_hasPart 20 = .ok (.getfield 25, 3) := by decide +kernel
theorem dX10_hasPart_23 : decode cX10_hasPart 23 = .ok (.iload_n 1, 1) := by decide +kernel
theorem dX10_hasPart_24 : decode cX10_hasPart 24 = .ok (.iaload, 1) := by decide +kernel
theorem dX10_hasPart_25 : decode cX10_hasPart 25 = .ok (.iload_n 3, 1) := by decide +kernel
theorem dX10_hasPart_26 : decode cX10_hasPart 26 = .ok (.isub, 1) := by decide +kernel
theorem dX10_hasPart_27 : decode cX10_hasPart 27 = .ok (.if_icmp .gt 7, 3) := by decide +kernel
theorem dX10_hasPart_30 : decode cX10_hasPart 30 = .ok (.iconst 1, 1) := by decide +kernel
theorem dX10_hasPart_31 : decode cX10_hasPart 31 = .ok (.goto 4, 3) := by decide +kernel
theorem dX10_hasPart_34 : decode cX10_hasPart 34 = .ok (.iconst 0, 1) := by decide +kernel
theorem dX10_hasPart_35 : decode cX10_hasPart 35 = .ok (.ireturn, 1) := by decide +kernel
abbrev rmX10_hasPart : Room := { frames := 0, cells := 0, slots := 0, locals := 0 }
theorem yd_X10_hasPart : yX10_hasPart.cls = RX10 ∧ yX10_hasPart.cls ≠ "java/lang/invoke/MethodHandle" ∧ yX10_hasPart.cls ≠ "java/lang/invoke/VarHandle" ∧ (parseMethodDescriptor yX10_hasPart.desc).map (fun d => d.parameters.length) = some 3 := by decide +kernel
def fX10_hasPart_J34 (r : RS) : Option (Int32) :=
  some (0 : Int32)
def fX10_hasPart (r : RS) (a1 : Int32) (a2 : Int32) (a3 : Int32) : Option (Int32) :=
  if a2 < 0 then
    fX10_hasPart_J34 r
  else
    if a3 < 0 then
      fX10_hasPart_J34 r
    else
      (aI 6 (r.2.1 5) a1).bind fun v1 =>
      if v1 < a3 then
        fX10_hasPart_J34 r
      else
        (aI 6 (r.2.1 5) a1).bind fun v2 =>
        if (v2 - a3) < a2 then
          fX10_hasPart_J34 r
        else
          some (1 : Int32)
set_option maxHeartbeats 4000000 in
set_option maxRecDepth 100000 in
theorem tX10_hasPart (κ : KK) (l : Launch) (o : Nat) (r : RS) (a1 : Int32) (a2 : Int32) (a3 : Int32) (q : Int32) (h : fX10_hasPart r a1 a2 a3 = some q) : MM κ l yX10_hasPart cX10_hasPart 4 (some .boolean) rmX10_hasPart (RA o) [.ref o, .int a1, .int a2, .int a3] (RB κ o r) (some (Value.int q)) (RB κ o r) := by
  refine MM.of (by decide +kernel) (Nat.le_of_ble_eq_true rfl) ?_
  intro p e s m below meth c C hnm
  have J34 : fX10_hasPart_J34 r = some q → GR κ p l e s m ([.ref o, .int a1, .int a2, .int a3] : List Value).toArray below meth c rmX10_hasPart 4 o (some (Value.int q)) (RB κ o r) r 34 [] [] := by
    intro  h
    unfold fX10_hasPart_J34 at h
    refine G_iconst (pc' := 35) (v := (0 : Int32)) C dX10_hasPart_34 (by decide) rfl ?_
    obtain rfl := Option.some.inj h
    exact G_zret (v := (0 : Int32)) C rfl dX10_hasPart_35 (fun _ h => h)
  unfold fX10_hasPart at h
  refine G_sub (lv' := [(0, .ref o), (1, .int a1), (2, .int a2), (3, .int a3)]) [0, 1, 2, 3] rfl ?_
  refine G_iload_n (pc' := 1) C dX10_hasPart_0 2 rfl rfl ?_
  refine G_if_lt (tgt := 34) (pc' := 4) C dX10_hasPart_1 (by decide) rfl (fun hc => ?_) (fun hc => ?_)
  · replace h := z_ip hc h
    exact G_sub [] rfl (J34  h)
  · replace h := z_in hc h
    refine G_iload_n (pc' := 5) C dX10_hasPart_4 3 rfl rfl ?_
    refine G_if_lt (tgt := 34) (pc' := 8) C dX10_hasPart_5 (by decide) rfl (fun hc => ?_) (fun hc => ?_)
    · replace h := z_ip hc h
      exact G_sub [] rfl (J34  h)
    · replace h := z_in hc h
      refine G_iload_n (pc' := 9) C dX10_hasPart_8 3 rfl rfl ?_
      refine G_aload_n (pc' := 10) C dX10_hasPart_9 0 rfl rfl ?_
      refine R_g_sheetSize (pc' := 13) C dX10_hasPart_10 rfl ?_
      refine G_iload_n (pc' := 14) C dX10_hasPart_13 1 rfl rfl ?_
      obtain ⟨v1, hv1, h⟩ := ob h
      refine R_l_sheetSize (pc' := 15) C dX10_hasPart_14 hv1 rfl ?_
      refine G_icmp_gt (tgt := 34) (pc' := 18) C dX10_hasPart_15 (by decide) rfl (fun hc => ?_) (fun hc => ?_)
      · replace h := z_ip hc h
        exact G_sub [] rfl (J34  h)
      · replace h := z_in hc h
        refine G_iload_n (pc' := 19) C dX10_hasPart_18 2 rfl rfl ?_
        refine G_aload_n (pc' := 20) C dX10_hasPart_19 0 rfl rfl ?_
        refine R_g_sheetSize (pc' := 23) C dX10_hasPart_20 rfl ?_
        refine G_iload_n (pc' := 24) C dX10_hasPart_23 1 rfl rfl ?_
        obtain ⟨v2, hv2, h⟩ := ob h
        refine R_l_sheetSize (pc' := 25) C dX10_hasPart_24 hv2 rfl ?_
        refine G_iload_n (pc' := 26) C dX10_hasPart_25 3 rfl rfl ?_
        refine G_isub (pc' := 27) C dX10_hasPart_26 rfl ?_
        refine G_icmp_gt (tgt := 34) (pc' := 30) C dX10_hasPart_27 (by decide) rfl (fun hc => ?_) (fun hc => ?_)
        · replace h := z_ip hc h
          exact G_sub [] rfl (J34  h)
        · replace h := z_in hc h
          refine G_iconst (pc' := 31) (v := (1 : Int32)) C dX10_hasPart_30 (by decide) rfl ?_
          refine G_goto (tgt := 35) C dX10_hasPart_31 (by decide) ?_
          obtain rfl := Option.some.inj h
          exact G_zret (v := (1 : Int32)) C rfl dX10_hasPart_35 (fun _ h => h)
theorem dX10_copy_0 : decode cX10_copy 0 = .ok (.iload_n 1, 1) := by decide +kernel
theorem dX10_copy_1 : decode cX10_copy 1 = .ok (.invokestatic 133, 3) := by decide +kernel
theorem dX10_copy_4 : decode cX10_copy 4 = .ok (.ifCond .eq 10, 3) := by decide +kernel
theorem dX10_copy_7 : decode cX10_copy 7 = .ok (.iload_n 3, 1) := by decide +kernel
theorem dX10_copy_8 : decode cX10_copy 8 = .ok (.invokestatic 133, 3) := by decide +kernel
theorem dX10_copy_11 : decode cX10_copy 11 = .ok (.ifCond .ne 6, 3) := by decide +kernel
theorem dX10_copy_14 : decode cX10_copy 14 = .ok (.bipush (-2), 2) := by decide +kernel
theorem dX10_copy_16 : decode cX10_copy 16 = .ok (.ireturn, 1) := by decide +kernel
theorem dX10_copy_17 : decode cX10_copy 17 = .ok (.aload_n 0, 1) := by decide +kernel
theorem dX10_copy_18 : decode cX10_copy 18 = .ok (.getfield 25, 3) := by decide +kernel
theorem dX10_copy_21 : decode cX10_copy 21 = .ok (.iload_n 1, 1) := by decide +kernel
theorem dX10_copy_22 : decode cX10_copy 22 = .ok (.iaload, 1) := by decide +kernel
theorem dX10_copy_23 : decode cX10_copy 23 = .ok (.ifCond .lt 12, 3) := by decide +kernel
theorem dX10_copy_26 : decode cX10_copy 26 = .ok (.aload_n 0, 1) := by decide +kernel
theorem dX10_copy_27 : decode cX10_copy 27 = .ok (.getfield 25, 3) := by decide +kernel
theorem dX10_copy_30 : decode cX10_copy 30 = .ok (.iload_n 3, 1) := by decide +kernel
theorem dX10_copy_31 : decode cX10_copy 31 = .ok (.iaload, 1) := by decide +kernel
theorem dX10_copy_32 : decode cX10_copy 32 = .ok (.ifCond .ge 10, 3) := by decide +kernel
theorem dX10_copy_35 : decode cX10_copy 35 = .ok (.aload_n 0, 1) := by decide +kernel
theorem dX10_copy_36 : decode cX10_copy 36 = .ok (.bipush (-10), 2) := by decide +kernel
theorem dX10_copy_38 : decode cX10_copy 38 = .ok (.invokevirtual 136, 3) := by decide +kernel
theorem dX10_copy_41 : decode cX10_copy 41 = .ok (.ireturn, 1) := by decide +kernel
theorem dX10_copy_42 : decode cX10_copy 42 = .ok (.aload_n 0, 1) := by decide +kernel
theorem dX10_copy_43 : decode cX10_copy 43 = .ok (.getfield 22, 3) := by decide +kernel
theorem dX10_copy_46 : decode cX10_copy 46 = .ok (.iload_n 1, 1) := by decide +kernel
theorem dX10_copy_47 : decode cX10_copy 47 = .ok (.iaload, 1) := by decide +kernel
theorem dX10_copy_48 : decode cX10_copy 48 = .ok (.aload_n 0, 1) := by decide +kernel
theorem dX10_copy_49 : decode cX10_copy 49 = .ok (.getfield 22, 3) := by decide +kernel
theorem dX10_copy_52 : decode cX10_copy 52 = .ok (.iload_n 3, 1) := by decide +kernel
theorem dX10_copy_53 : decode cX10_copy 53 = .ok (.iaload, 1) := by decide +kernel
theorem dX10_copy_54 : decode cX10_copy 54 = .ok (.if_icmp .eq 10, 3) := by decide +kernel
theorem dX10_copy_57 : decode cX10_copy 57 = .ok (.aload_n 0, 1) := by decide +kernel
theorem dX10_copy_58 : decode cX10_copy 58 = .ok (.bipush (-12), 2) := by decide +kernel
theorem dX10_copy_60 : decode cX10_copy 60 = .ok (.invokevirtual 136, 3) := by decide +kernel
theorem dX10_copy_63 : decode cX10_copy 63 = .ok (.ireturn, 1) := by decide +kernel
theorem dX10_copy_64 : decode cX10_copy 64 = .ok (.aload_n 0, 1) := by decide +kernel
theorem dX10_copy_65 : decode cX10_copy 65 = .ok (.iload_n 1, 1) := by decide +kernel
theorem dX10_copy_66 : decode cX10_copy 66 = .ok (.iload_n 2, 1) := by decide +kernel
theorem dX10_copy_67 : decode cX10_copy 67 = .ok (.iload 5, 2) := by decide +kernel
theorem dX10_copy_69 : decode cX10_copy 69 = .ok (.invokevirtual 139, 3) := by decide +kernel
theorem dX10_copy_72 : decode cX10_copy 72 = .ok (.ifCond .eq 15, 3) := by decide +kernel
theorem dX10_copy_75 : decode cX10_copy 75 = .ok (.aload_n 0, 1) := by decide +kernel
theorem dX10_copy_76 : decode cX10_copy 76 = .ok (.iload_n 3, 1) := by decide +kernel
theorem dX10_copy_77 : decode cX10_copy 77 = .ok (.iload 4, 2) := by decide +kernel
theorem dX10_copy_79 : decode cX10_copy 79 = .ok (.iload 5, 2) := by decide +kernel
theorem dX10_copy_81 : decode cX10_copy 81 = .ok (.invokevirtual 139, 3) := by decide +kernel
theorem dX10_copy_84 : decode cX10_copy 84 = .ok (.ifCond .ne 10, 3) := by decide +kernel
theorem dX10_copy_87 : decode cX10_copy 87 = .ok (.aload_n 0, 1) := by decide +kernel
theorem dX10_copy_88 : decode cX10_copy 88 = .ok (.bipush (-11), 2) := by decide +kernel
theorem dX10_copy_90 : decode cX10_copy 90 = .ok (.invokevirtual 136, 3) := by decide +kernel
theorem dX10_copy_93 : decode cX10_copy 93 = .ok (.ireturn, 1) := by decide +kernel
theorem dX10_copy_94 : decode cX10_copy 94 = .ok (.iconst 0, 1) := by decide +kernel
theorem dX10_copy_95 : decode cX10_copy 95 = .ok (.istore 6, 2) := by decide +kernel
theorem dX10_copy_97 : decode cX10_copy 97 = .ok (.iload 6, 2) := by decide +kernel
theorem dX10_copy_99 : decode cX10_copy 99 = .ok (.iload 5, 2) := by decide +kernel
theorem dX10_copy_101 : decode cX10_copy 101 = .ok (.if_icmp .ge 31, 3) := by decide +kernel
theorem dX10_copy_104 : decode cX10_copy 104 = .ok (.aload_n 0, 1) := by decide +kernel
theorem dX10_copy_105 : decode cX10_copy 105 = .ok (.getfield 42, 3) := by decide +kernel
theorem dX10_copy_108 : decode cX10_copy 108 = .ok (.iload 6, 2) := by decide +kernel
theorem dX10_copy_110 : decode cX10_copy 110 = .ok (.aload_n 0, 1) := by decide +kernel
theorem dX10_copy_111 : decode cX10_copy 111 = .ok (.getfield 28, 3) := by decide +kernel
theorem dX10_copy_114 : decode cX10_copy 114 = .ok (.sipush 256, 3) := by decide +kernel
theorem dX10_copy_117 : decode cX10_copy 117 = .ok (.iload_n 1, 1) := by decide +kernel
theorem dX10_copy_118 : decode cX10_copy 118 = .ok (.imul, 1) := by decide +kernel
theorem dX10_copy_119 : decode cX10_copy 119 = .ok (.iload_n 2, 1) := by decide +kernel
theorem dX10_copy_120 : decode cX10_copy 120 = .ok (.iadd, 1) := by decide +kernel
theorem dX10_copy_121 : decode cX10_copy 121 = .ok (.iload 6, 2) := by decide +kernel
theorem dX10_copy_123 : decode cX10_copy 123 = .ok (.iadd, 1) := by decide +kernel
theorem dX10_copy_124 : decode cX10_copy 124 = .ok (.laload, 1) := by decide +kernel
theorem dX10_copy_125 : decode cX10_copy 125 = .ok (.lastore, 1) := by decide +kernel
theorem dX10_copy_126 : decode cX10_copy 126 = .ok (.iinc 6 1, 3) := by decide +kernel
theorem dX10_copy_129 : decode cX10_copy 129 = .ok (.goto (-32), 3) := by decide +kernel
theorem dX10_copy_132 : decode cX10_copy 132 = .ok (.iconst 0, 1) := by decide +kernel
theorem dX10_copy_133 : decode cX10_copy 133 = .ok (.istore 6, 2) := by decide +kernel
theorem dX10_copy_135 : decode cX10_copy 135 = .ok (.iload 6, 2) := by decide +kernel
theorem dX10_copy_137 : decode cX10_copy 137 = .ok (.iload 5, 2) := by decide +kernel
theorem dX10_copy_139 : decode cX10_copy 139 = .ok (.if_icmp .ge 32, 3) := by decide +kernel
theorem dX10_copy_142 : decode cX10_copy 142 = .ok (.aload_n 0, 1) := by decide +kernel
theorem dX10_copy_143 : decode cX10_copy 143 = .ok (.getfield 28, 3) := by decide +kernel
theorem dX10_copy_146 : decode cX10_copy 146 = .ok (.sipush 256, 3) := by decide +kernel
theorem dX10_copy_149 : decode cX10_copy 149 = .ok (.iload_n 3, 1) := by decide +kernel
theorem dX10_copy_150 : decode cX10_copy 150 = .ok (.imul, 1) := by decide +kernel
theorem dX10_copy_151 : decode cX10_copy 151 = .ok (.iload 4, 2) := by decide +kernel
theorem dX10_copy_153 : decode cX10_copy 153 = .ok (.iadd, 1) := by decide +kernel
theorem dX10_copy_154 : decode cX10_copy 154 = .ok (.iload 6, 2) := by decide +kernel
theorem dX10_copy_156 : decode cX10_copy 156 = .ok (.iadd, 1) := by decide +kernel
theorem dX10_copy_157 : decode cX10_copy 157 = .ok (.aload_n 0, 1) := by decide +kernel
theorem dX10_copy_158 : decode cX10_copy 158 = .ok (.getfield 42, 3) := by decide +kernel
theorem dX10_copy_161 : decode cX10_copy 161 = .ok (.iload 6, 2) := by decide +kernel
theorem dX10_copy_163 : decode cX10_copy 163 = .ok (.laload, 1) := by decide +kernel
theorem dX10_copy_164 : decode cX10_copy 164 = .ok (.lastore, 1) := by decide +kernel
theorem dX10_copy_165 : decode cX10_copy 165 = .ok (.iinc 6 1, 3) := by decide +kernel
theorem dX10_copy_168 : decode cX10_copy 168 = .ok (.goto (-33), 3) := by decide +kernel
theorem dX10_copy_171 : decode cX10_copy 171 = .ok (.iload 5, 2) := by decide +kernel
theorem dX10_copy_173 : decode cX10_copy 173 = .ok (.ireturn, 1) := by decide +kernel
abbrev rmX10_copy : Room := { frames := 1, cells := 0, slots := 0, locals := 23 }
theorem yd_X10_copy : yX10_copy.cls = RX10 ∧ yX10_copy.cls ≠ "java/lang/invoke/MethodHandle" ∧ yX10_copy.cls ≠ "java/lang/invoke/VarHandle" ∧ (parseMethodDescriptor yX10_copy.desc).map (fun d => d.parameters.length) = some 5 := by decide +kernel
def fX10_copy_L97 (r : RS) (l1 : Int32) (l2 : Int32) (l3 : Int32) (l4 : Int32) (l5 : Int32) (l6 : Int32) : Option ((Int32 × RS) ⊕ RS) :=
  if l5 ≤ l6 then
    some (.inr r)
  else
    (aL 1536 (r.2.2 6) ((((256 : Int32) * l1) + l2) + l6)).bind fun v11 =>
    (sL r 8 256 l6 v11).bind fun r12 =>
    some (.inl ((l6 + (1 : Int32)), r12))
def fX10_copy_L135 (r : RS) (l3 : Int32) (l4 : Int32) (l5 : Int32) (l6 : Int32) : Option ((Int32 × RS) ⊕ RS) :=
  if l5 ≤ l6 then
    some (.inr r)
  else
    (aL 256 (r.2.2 8) l6).bind fun v14 =>
    (sL r 6 1536 ((((256 : Int32) * l3) + l4) + l6) v14).bind fun r15 =>
    some (.inl ((l6 + (1 : Int32)), r15))
def fX10_copy_J87 (r : RS) : Option (Int32 × RS) :=
  (fX10_meet r (-11 : Int32)).bind fun q9 =>
  some (q9.1, q9.2)
def fX10_copy_J35 (r : RS) : Option (Int32 × RS) :=
  (fX10_meet r (-10 : Int32)).bind fun q4 =>
  some (q4.1, q4.2)
def fX10_copy_J14 (r : RS) : Option (Int32 × RS) :=
  some ((-2 : Int32), r)
def fX10_copy (r : RS) (a1 : Int32) (a2 : Int32) (a3 : Int32) (a4 : Int32) (a5 : Int32) : Option (Int32 × RS) :=
  (fX10_isSheet a1).bind fun q1 =>
  if q1 = 0 then
    fX10_copy_J14 r
  else
    (fX10_isSheet a3).bind fun q2 =>
    if q2 = 0 then
      fX10_copy_J14 r
    else
      (aI 6 (r.2.1 5) a1).bind fun v3 =>
      if v3 < 0 then
        fX10_copy_J35 r
      else
        (aI 6 (r.2.1 5) a3).bind fun v5 =>
        if 0 ≤ v5 then
          (aI 6 (r.2.1 4) a1).bind fun v6 =>
          (aI 6 (r.2.1 4) a3).bind fun v7 =>
          if v6 = v7 then
            (fX10_hasPart r a1 a2 a5).bind fun q8 =>
            if q8 = 0 then
              fX10_copy_J87 r
            else
              (fX10_hasPart r a3 a4 a5).bind fun q10 =>
              if q10 = 0 then
                fX10_copy_J87 r
              else
                (lpN (fun u => fX10_copy_L97 u.2 a1 a2 a3 a4 a5 u.1) bigN ((0 : Int32), r)).bind fun e13 =>
                (lpN (fun u => fX10_copy_L135 u.2 a3 a4 a5 u.1) bigN ((0 : Int32), e13)).bind fun e16 =>
                some (a5, e16)
          else
            (fX10_meet r (-12 : Int32)).bind fun q17 =>
            some (q17.1, q17.2)
        else
          fX10_copy_J35 r
set_option maxHeartbeats 4000000 in
set_option maxRecDepth 100000 in
theorem tX10_copy_L97 {κ : KK} {p : Program} {l : Launch} {e : Env} {s : State} {m : MethodId} {args : Array Value} {below : List Frame} {meth : Method} {c : Code} (C : Cx κ p s m args meth c cX10_copy 7 RX10 (some .int)) {o : Nat} {v : Option Value} {B' : Heap → Prop} {r : RS} {l1 : Int32} {l2 : Int32} {l3 : Int32} {l4 : Int32} {l5 : Int32} {l6 : Int32} {y : (Int32 × RS) ⊕ RS} (h : fX10_copy_L97 r l1 l2 l3 l4 l5 l6 = some y) (kc : ∀ u, y = .inl u → GR κ p l e s m args below meth c rmX10_copy 7 o v B' u.2 97 [(0, .ref o), (1, .int l1), (2, .int l2), (3, .int l3), (4, .int l4), (5, .int l5), (6, .int u.1)] []) (kx : ∀ w, y = .inr w → GR κ p l e s m args below meth c rmX10_copy 7 o v B' w 132 [(0, .ref o), (3, .int l3), (4, .int l4), (5, .int l5)] []) : GR κ p l e s m args below meth c rmX10_copy 7 o v B' r 97 [(0, .ref o), (1, .int l1), (2, .int l2), (3, .int l3), (4, .int l4), (5, .int l5), (6, .int l6)] [] := by
  unfold fX10_copy_L97 at h
  refine G_iload (pc' := 99) C dX10_copy_97 6 rfl rfl ?_
  refine G_iload (pc' := 101) C dX10_copy_99 5 rfl rfl ?_
  refine G_icmp_ge (tgt := 132) (pc' := 104) C dX10_copy_101 (by decide) rfl (fun hc => ?_) (fun hc => ?_)
  · replace h := z_ip hc h
    exact G_sub [0, 3, 4, 5] rfl (kx _ (Option.some.inj h).symm)
  · replace h := z_in hc h
    refine G_aload_n (pc' := 105) C dX10_copy_104 0 rfl rfl ?_
    refine R_g_carried (pc' := 108) C dX10_copy_105 rfl ?_
    refine G_iload (pc' := 110) C dX10_copy_108 6 rfl rfl ?_
    refine G_aload_n (pc' := 111) C dX10_copy_110 0 rfl rfl ?_
    refine R_g_sheet (pc' := 114) C dX10_copy_111 rfl ?_
    refine G_sipush (pc' := 117) (v := (256 : Int32)) C dX10_copy_114 (by decide) rfl ?_
    refine G_iload_n (pc' := 118) C dX10_copy_117 1 rfl rfl ?_
    refine G_imul (pc' := 119) C dX10_copy_118 rfl ?_
    refine G_iload_n (pc' := 120) C dX10_copy_119 2 rfl rfl ?_
    refine G_iadd (pc' := 121) C dX10_copy_120 rfl ?_
    refine G_iload (pc' := 123) C dX10_copy_121 6 rfl rfl ?_
    refine G_iadd (pc' := 124) C dX10_copy_123 rfl ?_
    obtain ⟨v11, hv11, h⟩ := ob h
    refine R_l_sheet (pc' := 125) C dX10_copy_124 hv11 rfl ?_
    obtain ⟨r12, hr12, h⟩ := ob h
    refine R_s_carried (pc' := 126) C dX10_copy_125 hr12 rfl ?_
    refine G_iinc (pc' := 129) C dX10_copy_126 6 rfl rfl [(6, .int (l6 + (1 : Int32))), (0, .ref o), (1, .int l1), (2, .int l2), (3, .int l3), (4, .int l4), (5, .int l5)] (by decide) rfl rfl ?_
    refine G_goto (tgt := 97) C dX10_copy_129 (by decide) ?_
    exact G_sub [1, 2, 3, 4, 5, 6, 0] rfl (kc _ (Option.some.inj h).symm)
set_option maxHeartbeats 4000000 in
set_option maxRecDepth 100000 in
theorem tX10_copy_L135 {κ : KK} {p : Program} {l : Launch} {e : Env} {s : State} {m : MethodId} {args : Array Value} {below : List Frame} {meth : Method} {c : Code} (C : Cx κ p s m args meth c cX10_copy 7 RX10 (some .int)) {o : Nat} {v : Option Value} {B' : Heap → Prop} {r : RS} {l3 : Int32} {l4 : Int32} {l5 : Int32} {l6 : Int32} {y : (Int32 × RS) ⊕ RS} (h : fX10_copy_L135 r l3 l4 l5 l6 = some y) (kc : ∀ u, y = .inl u → GR κ p l e s m args below meth c rmX10_copy 7 o v B' u.2 135 [(0, .ref o), (3, .int l3), (4, .int l4), (5, .int l5), (6, .int u.1)] []) (kx : ∀ w, y = .inr w → GR κ p l e s m args below meth c rmX10_copy 7 o v B' w 171 [(5, .int l5)] []) : GR κ p l e s m args below meth c rmX10_copy 7 o v B' r 135 [(0, .ref o), (3, .int l3), (4, .int l4), (5, .int l5), (6, .int l6)] [] := by
  unfold fX10_copy_L135 at h
  refine G_iload (pc' := 137) C dX10_copy_135 4 rfl rfl ?_
  refine G_iload (pc' := 139) C dX10_copy_137 3 rfl rfl ?_
  refine G_icmp_ge (tgt := 171) (pc' := 142) C dX10_copy_139 (by decide) rfl (fun hc => ?_) (fun hc => ?_)
  · replace h := z_ip hc h
    exact G_sub [3] rfl (kx _ (Option.some.inj h).symm)
  · replace h := z_in hc h
    refine G_aload_n (pc' := 143) C dX10_copy_142 0 rfl rfl ?_
    refine R_g_sheet (pc' := 146) C dX10_copy_143 rfl ?_
    refine G_sipush (pc' := 149) (v := (256 : Int32)) C dX10_copy_146 (by decide) rfl ?_
    refine G_iload_n (pc' := 150) C dX10_copy_149 1 rfl rfl ?_
    refine G_imul (pc' := 151) C dX10_copy_150 rfl ?_
    refine G_iload (pc' := 153) C dX10_copy_151 2 rfl rfl ?_
    refine G_iadd (pc' := 154) C dX10_copy_153 rfl ?_
    refine G_iload (pc' := 156) C dX10_copy_154 4 rfl rfl ?_
    refine G_iadd (pc' := 157) C dX10_copy_156 rfl ?_
    refine G_aload_n (pc' := 158) C dX10_copy_157 0 rfl rfl ?_
    refine R_g_carried (pc' := 161) C dX10_copy_158 rfl ?_
    refine G_iload (pc' := 163) C dX10_copy_161 4 rfl rfl ?_
    obtain ⟨v14, hv14, h⟩ := ob h
    refine R_l_carried (pc' := 164) C dX10_copy_163 hv14 rfl ?_
    obtain ⟨r15, hr15, h⟩ := ob h
    refine R_s_sheet (pc' := 165) C dX10_copy_164 hr15 rfl ?_
    refine G_iinc (pc' := 168) C dX10_copy_165 4 rfl rfl [(6, .int (l6 + (1 : Int32))), (0, .ref o), (3, .int l3), (4, .int l4), (5, .int l5)] (by decide) rfl rfl ?_
    refine G_goto (tgt := 135) C dX10_copy_168 (by decide) ?_
    exact G_sub [1, 2, 3, 4, 0] rfl (kc _ (Option.some.inj h).symm)
set_option maxHeartbeats 4000000 in
set_option maxRecDepth 100000 in
theorem tX10_copy (κ : KK) (l : Launch) (o : Nat) (r : RS) (a1 : Int32) (a2 : Int32) (a3 : Int32) (a4 : Int32) (a5 : Int32) (q : Int32 × RS) (h : fX10_copy r a1 a2 a3 a4 a5 = some q) : MM κ l yX10_copy cX10_copy 7 (some .int) rmX10_copy (RA o) [.ref o, .int a1, .int a2, .int a3, .int a4, .int a5] (RB κ o r) (some (Value.int q.1)) (RB κ o q.2) := by
  refine MM.of (by decide +kernel) (Nat.le_of_ble_eq_true rfl) ?_
  intro p e s m below meth c C hnm
  have J87 : ∀ (r : RS), fX10_copy_J87 r = some q → GR κ p l e s m ([.ref o, .int a1, .int a2, .int a3, .int a4, .int a5] : List Value).toArray below meth c rmX10_copy 7 o (some (Value.int q.1)) (RB κ o q.2) r 87 [(0, .ref o)] [] := by
    intro r h
    unfold fX10_copy_J87 at h
    refine G_aload_n (pc' := 88) C dX10_copy_87 0 rfl rfl ?_
    refine G_bipush (pc' := 90) (v := (-11 : Int32)) C dX10_copy_88 (by decide) rfl ?_
    obtain ⟨q9, hq9, h⟩ := ob h
    refine G_cV0 (pc' := 93) C dX10_copy_90 (tX10_meet κ l o r (-11 : Int32) q9 hq9) (wV tw_ml_X10_136 tw_im_X10_meet tw_se_X10_X10_meet tw_in_X10 tw_co_X10_meet) yd_X10_meet rfl fi_X10 (RB_rd 0 rfl) rfl rfl (by decide) rfl (Nat.le_of_ble_eq_true rfl) rfl rfl ?_
    obtain rfl := Option.some.inj h
    exact G_iret C dX10_copy_93 (fun _ h => h)
  have J35 : ∀ (r : RS), fX10_copy_J35 r = some q → GR κ p l e s m ([.ref o, .int a1, .int a2, .int a3, .int a4, .int a5] : List Value).toArray below meth c rmX10_copy 7 o (some (Value.int q.1)) (RB κ o q.2) r 35 [(0, .ref o)] [] := by
    intro r h
    unfold fX10_copy_J35 at h
    refine G_aload_n (pc' := 36) C dX10_copy_35 0 rfl rfl ?_
    refine G_bipush (pc' := 38) (v := (-10 : Int32)) C dX10_copy_36 (by decide) rfl ?_
    obtain ⟨q4, hq4, h⟩ := ob h
    refine G_cV0 (pc' := 41) C dX10_copy_38 (tX10_meet κ l o r (-10 : Int32) q4 hq4) (wV tw_ml_X10_136 tw_im_X10_meet tw_se_X10_X10_meet tw_in_X10 tw_co_X10_meet) yd_X10_meet rfl fi_X10 (RB_rd 0 rfl) rfl rfl (by decide) rfl (Nat.le_of_ble_eq_true rfl) rfl rfl ?_
    obtain rfl := Option.some.inj h
    exact G_iret C dX10_copy_41 (fun _ h => h)
  have J14 : ∀ (r : RS), fX10_copy_J14 r = some q → GR κ p l e s m ([.ref o, .int a1, .int a2, .int a3, .int a4, .int a5] : List Value).toArray below meth c rmX10_copy 7 o (some (Value.int q.1)) (RB κ o q.2) r 14 [] [] := by
    intro r h
    unfold fX10_copy_J14 at h
    refine G_bipush (pc' := 16) (v := (-2 : Int32)) C dX10_copy_14 (by decide) rfl ?_
    obtain rfl := Option.some.inj h
    exact G_iret C dX10_copy_16 (fun _ h => h)
  unfold fX10_copy at h
  refine G_sub (lv' := [(0, .ref o), (1, .int a1), (2, .int a2), (3, .int a3), (4, .int a4), (5, .int a5)]) [0, 1, 2, 3, 4, 5] rfl ?_
  refine G_iload_n (pc' := 1) C dX10_copy_0 1 rfl rfl ?_
  obtain ⟨q1, hq1, h⟩ := ob h
  refine G_cS0 (pc' := 4) C dX10_copy_1 (tX10_isSheet κ l (RA o) (RB κ o r) a1 q1 hq1) (wS tw_ml_X10_133 tw_st_X10_isSheet tw_co_X10_isSheet tw_in_X10) yd_X10_isSheet rfl rfl rfl (by decide) rfl (Nat.le_of_ble_eq_true rfl) rfl rfl ?_
  refine G_if_eq (tgt := 14) (pc' := 7) C dX10_copy_4 (by decide) rfl (fun hc => ?_) (fun hc => ?_)
  · replace h := z_ip hc h
    exact G_sub [] rfl (J14 r h)
  · replace h := z_in hc h
    refine G_iload_n (pc' := 8) C dX10_copy_7 3 rfl rfl ?_
    obtain ⟨q2, hq2, h⟩ := ob h
    refine G_cS0 (pc' := 11) C dX10_copy_8 (tX10_isSheet κ l (RA o) (RB κ o r) a3 q2 hq2) (wS tw_ml_X10_133 tw_st_X10_isSheet tw_co_X10_isSheet tw_in_X10) yd_X10_isSheet rfl rfl rfl (by decide) rfl (Nat.le_of_ble_eq_true rfl) rfl rfl ?_
    refine G_if_ne (tgt := 17) (pc' := 14) C dX10_copy_11 (by decide) rfl (fun hc => ?_) (fun hc => ?_)
    · replace h := z_in hc h
      refine G_aload_n (pc' := 18) C dX10_copy_17 0 rfl rfl ?_
      refine R_g_sheetSize (pc' := 21) C dX10_copy_18 rfl ?_
      refine G_iload_n (pc' := 22) C dX10_copy_21 1 rfl rfl ?_
      obtain ⟨v3, hv3, h⟩ := ob h
      refine R_l_sheetSize (pc' := 23) C dX10_copy_22 hv3 rfl ?_
      refine G_if_lt (tgt := 35) (pc' := 26) C dX10_copy_23 (by decide) rfl (fun hc => ?_) (fun hc => ?_)
      · replace h := z_ip hc h
        exact G_sub [0] rfl (J35 r h)
      · replace h := z_in hc h
        refine G_aload_n (pc' := 27) C dX10_copy_26 0 rfl rfl ?_
        refine R_g_sheetSize (pc' := 30) C dX10_copy_27 rfl ?_
        refine G_iload_n (pc' := 31) C dX10_copy_30 3 rfl rfl ?_
        obtain ⟨v5, hv5, h⟩ := ob h
        refine R_l_sheetSize (pc' := 32) C dX10_copy_31 hv5 rfl ?_
        refine G_if_ge (tgt := 42) (pc' := 35) C dX10_copy_32 (by decide) rfl (fun hc => ?_) (fun hc => ?_)
        · replace h := z_ip hc h
          refine G_aload_n (pc' := 43) C dX10_copy_42 0 rfl rfl ?_
          refine R_g_sheetSort (pc' := 46) C dX10_copy_43 rfl ?_
          refine G_iload_n (pc' := 47) C dX10_copy_46 1 rfl rfl ?_
          obtain ⟨v6, hv6, h⟩ := ob h
          refine R_l_sheetSort (pc' := 48) C dX10_copy_47 hv6 rfl ?_
          refine G_aload_n (pc' := 49) C dX10_copy_48 0 rfl rfl ?_
          refine R_g_sheetSort (pc' := 52) C dX10_copy_49 rfl ?_
          refine G_iload_n (pc' := 53) C dX10_copy_52 3 rfl rfl ?_
          obtain ⟨v7, hv7, h⟩ := ob h
          refine R_l_sheetSort (pc' := 54) C dX10_copy_53 hv7 rfl ?_
          refine G_icmp_eq (tgt := 64) (pc' := 57) C dX10_copy_54 (by decide) rfl (fun hc => ?_) (fun hc => ?_)
          · replace h := z_ip hc h
            refine G_aload_n (pc' := 65) C dX10_copy_64 0 rfl rfl ?_
            refine G_iload_n (pc' := 66) C dX10_copy_65 1 rfl rfl ?_
            refine G_iload_n (pc' := 67) C dX10_copy_66 2 rfl rfl ?_
            refine G_iload (pc' := 69) C dX10_copy_67 5 rfl rfl ?_
            obtain ⟨q8, hq8, h⟩ := ob h
            refine G_cV0 (pc' := 72) C dX10_copy_69 (tX10_hasPart κ l o r a1 a2 a5 q8 hq8) (wV tw_ml_X10_139 tw_im_X10_hasPart tw_se_X10_X10_hasPart tw_in_X10 tw_co_X10_hasPart) yd_X10_hasPart rfl fi_X10 (RB_rd 0 rfl) rfl rfl (by decide) rfl (Nat.le_of_ble_eq_true rfl) rfl rfl ?_
            refine G_if_eq (tgt := 87) (pc' := 75) C dX10_copy_72 (by decide) rfl (fun hc => ?_) (fun hc => ?_)
            · replace h := z_ip hc h
              exact G_sub [0] rfl (J87 r h)
            · replace h := z_in hc h
              refine G_aload_n (pc' := 76) C dX10_copy_75 0 rfl rfl ?_
              refine G_iload_n (pc' := 77) C dX10_copy_76 3 rfl rfl ?_
              refine G_iload (pc' := 79) C dX10_copy_77 4 rfl rfl ?_
              refine G_iload (pc' := 81) C dX10_copy_79 5 rfl rfl ?_
              obtain ⟨q10, hq10, h⟩ := ob h
              refine G_cV0 (pc' := 84) C dX10_copy_81 (tX10_hasPart κ l o r a3 a4 a5 q10 hq10) (wV tw_ml_X10_139 tw_im_X10_hasPart tw_se_X10_X10_hasPart tw_in_X10 tw_co_X10_hasPart) yd_X10_hasPart rfl fi_X10 (RB_rd 0 rfl) rfl rfl (by decide) rfl (Nat.le_of_ble_eq_true rfl) rfl rfl ?_
              refine G_if_ne (tgt := 94) (pc' := 87) C dX10_copy_84 (by decide) rfl (fun hc => ?_) (fun hc => ?_)
              · replace h := z_in hc h
                refine G_iconst (pc' := 95) (v := (0 : Int32)) C dX10_copy_94 (by decide) rfl ?_
                refine G_istore (pc' := 97) C dX10_copy_95 [(6, .int (0 : Int32)), (0, .ref o), (1, .int a1), (2, .int a2), (3, .int a3), (4, .int a4), (5, .int a5)] (by decide) rfl rfl ?_
                obtain ⟨e13, hle13, h⟩ := ob h
                refine G_sub (lv' := [(0, .ref o), (1, .int a1), (2, .int a2), (3, .int a3), (4, .int a4), (5, .int a5), (6, .int (0 : Int32))]) [1, 2, 3, 4, 5, 6, 0] rfl ?_
                refine lpN_ind (P := fun u => GR κ p l e s m ([.ref o, .int a1, .int a2, .int a3, .int a4, .int a5] : List Value).toArray below meth c rmX10_copy 7 o (some (Value.int q.1)) (RB κ o q.2) u.2 97 [(0, .ref o), (1, .int a1), (2, .int a2), (3, .int a3), (4, .int a4), (5, .int a5), (6, .int u.1)] []) (X := fun w => GR κ p l e s m ([.ref o, .int a1, .int a2, .int a3, .int a4, .int a5] : List Value).toArray below meth c rmX10_copy 7 o (some (Value.int q.1)) (RB κ o q.2) w 132 [(0, .ref o), (3, .int a3), (4, .int a4), (5, .int a5)] []) (fun u y hb kc kx => tX10_copy_L97 C hb kc kx) _ _ _ hle13 ?_
                refine G_iconst (pc' := 133) (v := (0 : Int32)) C dX10_copy_132 (by decide) rfl ?_
                refine G_istore (pc' := 135) C dX10_copy_133 [(6, .int (0 : Int32)), (0, .ref o), (3, .int a3), (4, .int a4), (5, .int a5)] (by decide) rfl rfl ?_
                obtain ⟨e16, hle16, h⟩ := ob h
                refine G_sub (lv' := [(0, .ref o), (3, .int a3), (4, .int a4), (5, .int a5), (6, .int (0 : Int32))]) [1, 2, 3, 4, 0] rfl ?_
                refine lpN_ind (P := fun u => GR κ p l e s m ([.ref o, .int a1, .int a2, .int a3, .int a4, .int a5] : List Value).toArray below meth c rmX10_copy 7 o (some (Value.int q.1)) (RB κ o q.2) u.2 135 [(0, .ref o), (3, .int a3), (4, .int a4), (5, .int a5), (6, .int u.1)] []) (X := fun w => GR κ p l e s m ([.ref o, .int a1, .int a2, .int a3, .int a4, .int a5] : List Value).toArray below meth c rmX10_copy 7 o (some (Value.int q.1)) (RB κ o q.2) w 171 [(5, .int a5)] []) (fun u y hb kc kx => tX10_copy_L135 C hb kc kx) _ _ _ hle16 ?_
                refine G_iload (pc' := 173) C dX10_copy_171 0 rfl rfl ?_
                obtain rfl := Option.some.inj h
                exact G_iret C dX10_copy_173 (fun _ h => h)
              · replace h := z_ip hc h
                exact G_sub [0] rfl (J87 r h)
          · replace h := z_in hc h
            refine G_aload_n (pc' := 58) C dX10_copy_57 0 rfl rfl ?_
            refine G_bipush (pc' := 60) (v := (-12 : Int32)) C dX10_copy_58 (by decide) rfl ?_
            obtain ⟨q17, hq17, h⟩ := ob h
            refine G_cV0 (pc' := 63) C dX10_copy_60 (tX10_meet κ l o r (-12 : Int32) q17 hq17) (wV tw_ml_X10_136 tw_im_X10_meet tw_se_X10_X10_meet tw_in_X10 tw_co_X10_meet) yd_X10_meet rfl fi_X10 (RB_rd 0 rfl) rfl rfl (by decide) rfl (Nat.le_of_ble_eq_true rfl) rfl rfl ?_
            obtain rfl := Option.some.inj h
            exact G_iret C dX10_copy_63 (fun _ h => h)
        · replace h := z_in hc h
          exact G_sub [0] rfl (J35 r h)
    · replace h := z_ip hc h
      exact G_sub [] rfl (J14 r h)
