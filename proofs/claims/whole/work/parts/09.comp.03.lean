theorem dX9_move_0 : decode cX9_move 0 = .ok (.iload_n 2, 1) := by decide +kernel
theorem dX9_move_1 : decode cX9_move 1 = .ok (.invokestatic 131, 3) := by decide +kernel
theorem dX9_move_4 : decode cX9_move 4 = .ok (.ifCond .ne 8, 3) := by decide +kernel
theorem dX9_move_7 : decode cX9_move 7 = .ok (.bipush (-2), 2) := by decide +kernel
theorem dX9_move_9 : decode cX9_move 9 = .ok (.goto 8, 3) := by decide +kernel
theorem dX9_move_12 : decode cX9_move 12 = .ok (.aload_n 0, 1) := by decide +kernel
theorem dX9_move_13 : decode cX9_move 13 = .ok (.iload_n 1, 1) := by decide +kernel
theorem dX9_move_14 : decode cX9_move 14 = .ok (.invokevirtual 145, 3) := by decide +kernel
theorem dX9_move_17 : decode cX9_move 17 = .ok (.istore_n 3, 1) := by decide +kernel
theorem dX9_move_18 : decode cX9_move 18 = .ok (.iload_n 3, 1) := by decide +kernel
theorem dX9_move_19 : decode cX9_move 19 = .ok (.ifCond .eq 5, 3) := by decide +kernel
theorem dX9_move_22 : decode cX9_move 22 = .ok (.iload_n 3, 1) := by decide +kernel
theorem dX9_move_23 : decode cX9_move 23 = .ok (.ireturn, 1) := by decide +kernel
theorem dX9_move_24 : decode cX9_move 24 = .ok (.aload_n 0, 1) := by decide +kernel
theorem dX9_move_25 : decode cX9_move 25 = .ok (.getfield 17, 3) := by decide +kernel
theorem dX9_move_28 : decode cX9_move 28 = .ok (.iload_n 2, 1) := by decide +kernel
theorem dX9_move_29 : decode cX9_move 29 = .ok (.aload_n 0, 1) := by decide +kernel
theorem dX9_move_30 : decode cX9_move 30 = .ok (.getfield 17, 3) := by decide +kernel
theorem dX9_move_33 : decode cX9_move 33 = .ok (.iload_n 1, 1) := by decide +kernel
theorem dX9_move_34 : decode cX9_move 34 = .ok (.aaload, 1) := by decide +kernel
theorem dX9_move_35 : decode cX9_move 35 = .ok (.aastore, 1) := by decide +kernel
theorem dX9_move_36 : decode cX9_move 36 = .ok (.aload_n 0, 1) := by decide +kernel
theorem dX9_move_37 : decode cX9_move 37 = .ok (.getfield 17, 3) := by decide +kernel
theorem dX9_move_40 : decode cX9_move 40 = .ok (.iload_n 1, 1) := by decide +kernel
theorem dX9_move_41 : decode cX9_move 41 = .ok (.aaload, 1) := by decide +kernel
theorem dX9_move_42 : decode cX9_move 42 = .ok (.getfield 152, 3) := by decide +kernel
theorem dX9_move_45 : decode cX9_move 45 = .ok (.ireturn, 1) := by decide +kernel
theorem yd_X9_move : yX9_move.cls = RX9 ∧ yX9_move.cls ≠ "java/lang/invoke/MethodHandle" ∧ yX9_move.cls ≠ "java/lang/invoke/VarHandle" ∧ (parseMethodDescriptor yX9_move.desc).map (fun d => d.parameters.length) = some 2 := by decide +kernel
abbrev rmX9_move : Room := { frames := 2, cells := 0, slots := 0, locals := 42 }
def fX9_move_J17 (o : Nat) (z : CS) (l1 : Int32) (l2 : Int32) (s0 : Int32) : Option (Int32 × CS) :=
  if s0 = 0 then
    (aQ 8 (z.2.2.1 1) l1).bind fun v3 =>
    (stQT z 1 l2 v3).bind fun z4 =>
    (aQ 8 (z4.2.2.1 1) l1).bind fun v5 =>
    (v5).bind fun ad6 =>
    (dT z4 ad6).bind fun t7 =>
    some (t7.2.1, z4)
  else
    some (s0, z)
def fX9_move (o : Nat) (z : CS) (a1 : Int32) (a2 : Int32) : Option (Int32 × CS) :=
  (fX9_isPlace a2).bind fun q1 =>
  if q1 = 0 then
    fX9_move_J17 o z a1 a2 (-2 : Int32)
  else
    (fX9_findingOfTask o z a1).bind fun q2 =>
    fX9_move_J17 o q2.2 a1 a2 q2.1
set_option maxHeartbeats 4000000 in
set_option maxRecDepth 100000 in
theorem tX9_move (κ : KK) (l : Launch) (o : Nat) (z : CS) (a1 : Int32) (a2 : Int32) (q : Int32 × CS) (h : fX9_move o z a1 a2 = some q) : MM κ l yX9_move cX9_move 4 (some .int) rmX9_move (CA o) [.ref o, .int a1, .int a2] (CB κ o z) (some (Value.int q.1)) (CB κ o q.2) := by
  refine MM.of (by decide +kernel) (Nat.le_of_ble_eq_true rfl) ?_
  intro p e s m below meth c C hnm
  have J17 : ∀ (z : CS) (l1 : Int32) (l2 : Int32) (s0 : Int32), fX9_move_J17 o z l1 l2 s0 = some q → GC κ p l e s m ([.ref o, .int a1, .int a2] : List Value).toArray below meth c rmX9_move 4 o (some (Value.int q.1)) (CB κ o q.2) 0 0 z 17 [(0, .ref o), (1, .int l1), (2, .int l2)] [.int s0] := by
    intro z l1 l2 s0 h
    unfold fX9_move_J17 at h
    refine G_istore_n (pc' := 18) C dX9_move_17 [(3, .int s0), (0, .ref o), (1, .int l1), (2, .int l2)] (by decide) rfl rfl ?_
    refine G_iload_n (pc' := 19) C dX9_move_18 0 rfl rfl ?_
    refine G_if_eq (tgt := 24) (pc' := 22) C dX9_move_19 (by decide) rfl (fun hc => ?_) (fun hc => ?_)
    · replace h := z_ip hc h
      refine G_aload_n (pc' := 25) C dX9_move_24 1 rfl rfl ?_
      refine G_get (pc' := 28) (k := 1) C fi_X9 dX9_move_25 tw_fl_X9_17 rfl (by decide) (CB_rd 0 rfl) rfl rfl ?_
      refine G_iload_n (pc' := 29) C dX9_move_28 3 rfl rfl ?_
      refine G_aload_n (pc' := 30) C dX9_move_29 1 rfl rfl ?_
      refine G_get (pc' := 33) (k := 1) C fi_X9 dX9_move_30 tw_fl_X9_17 rfl (by decide) (CB_rd 0 rfl) rfl rfl ?_
      refine G_iload_n (pc' := 34) C dX9_move_33 2 rfl rfl ?_
      replace h := ob h
      obtain ⟨v3, hv3, h⟩ := h
      refine G_aald5V (pc' := 35) C dX9_move_34 (CB_rd 2 rfl) hv3 rfl ?_
      replace h := ob h
      obtain ⟨z4, hz4, h⟩ := h
      refine C_q_places (pc' := 36) (x := v3) C dX9_move_35 hz4 rfl ?_
      refine G_aload_n (pc' := 37) C dX9_move_36 1 rfl rfl ?_
      refine G_get (pc' := 40) (k := 1) C fi_X9 dX9_move_37 tw_fl_X9_17 rfl (by decide) (CB_rd 0 rfl) rfl rfl ?_
      refine G_iload_n (pc' := 41) C dX9_move_40 2 rfl rfl ?_
      replace h := ob h
      obtain ⟨v5, hv5, h⟩ := h
      refine G_aald5V (pc' := 42) C dX9_move_41 (CB_rd 2 rfl) hv5 rfl ?_
      replace h := ob h
      obtain ⟨ad6, had6, h⟩ := h
      subst had6
      replace h := ob h
      obtain ⟨t7, ht7, h⟩ := h
      refine G_get (pc' := 45) (k := 1) C fi_X8 dX9_move_42 tw_fl_X9_152 rfl (by decide) (CB_T ht7) rfl rfl ?_
      refine G_widen (k := rmX9_move.cells) (n := rmX9_move.slots) (by decide) (by decide) ?_
      obtain rfl := Option.some.inj h
      exact G_iret C dX9_move_45 (fun _ h => h)
    · replace h := z_in hc h
      refine G_iload_n (pc' := 23) C dX9_move_22 0 rfl rfl ?_
      refine G_widen (k := rmX9_move.cells) (n := rmX9_move.slots) (by decide) (by decide) ?_
      obtain rfl := Option.some.inj h
      exact G_iret C dX9_move_23 (fun _ h => h)
  unfold fX9_move at h
  refine G_sub (lv' := [(0, .ref o), (1, .int a1), (2, .int a2)]) [0, 1, 2] rfl ?_
  refine G_iload_n (pc' := 1) C dX9_move_0 2 rfl rfl ?_
  replace h := ob h
  obtain ⟨q1, hq1, h⟩ := h
  refine G_cS0 (pc' := 4) C dX9_move_1 (tX9_isPlace κ l (CA o) (CB κ o z) a2 q1 hq1) (wS tw_ml_X9_131 tw_st_X9_isPlace tw_co_X9_isPlace tw_in_X9) yd_X9_isPlace rfl rfl rfl (by decide) rfl (Nat.le_of_ble_eq_true rfl) rfl rfl ?_
  refine G_if_ne (tgt := 12) (pc' := 7) C dX9_move_4 (by decide) rfl (fun hc => ?_) (fun hc => ?_)
  · replace h := z_in hc h
    refine G_aload_n (pc' := 13) C dX9_move_12 0 rfl rfl ?_
    refine G_iload_n (pc' := 14) C dX9_move_13 1 rfl rfl ?_
    replace h := ob h
    obtain ⟨q2, hq2, h⟩ := h
    refine G_cV0 (pc' := 17) C dX9_move_14 (tX9_findingOfTask κ l o z a1 q2 hq2) (wV tw_ml_X9_145 tw_im_X9_findingOfTask tw_se_X9_X9_findingOfTask tw_in_X9 tw_co_X9_findingOfTask) yd_X9_findingOfTask rfl fi_X9 (CB_rd 0 rfl) rfl rfl (by decide) rfl (Nat.le_of_ble_eq_true rfl) rfl rfl ?_
    exact G_sub (lv' := [(0, .ref o), (1, .int a1), (2, .int a2)]) [0, 1, 2] rfl (J17 q2.2 a1 a2 q2.1 h)
  · replace h := z_ip hc h
    refine G_bipush (pc' := 9) (v := (-2 : Int32)) C dX9_move_7 (by decide) rfl ?_
    refine G_goto (tgt := 17) C dX9_move_9 (by decide) ?_
    exact G_sub (lv' := [(0, .ref o), (1, .int a1), (2, .int a2)]) [0, 1, 2] rfl (J17 z a1 a2 (-2 : Int32) h)
theorem dX9_tell_0 : decode cX9_tell 0 = .ok (.aload_n 0, 1) := by decide +kernel
theorem dX9_tell_1 : decode cX9_tell 1 = .ok (.getfield 86, 3) := by decide +kernel
theorem dX9_tell_4 : decode cX9_tell 4 = .ok (.bipush 100, 2) := by decide +kernel
theorem dX9_tell_6 : decode cX9_tell 6 = .ok (.if_icmp .lt 6, 3) := by decide +kernel
theorem dX9_tell_9 : decode cX9_tell 9 = .ok (.bipush (-2), 2) := by decide +kernel
theorem dX9_tell_11 : decode cX9_tell 11 = .ok (.ireturn, 1) := by decide +kernel
theorem dX9_tell_12 : decode cX9_tell 12 = .ok (.aload_n 0, 1) := by decide +kernel
theorem dX9_tell_13 : decode cX9_tell 13 = .ok (.getfield 24, 3) := by decide +kernel
theorem dX9_tell_16 : decode cX9_tell 16 = .ok (.aload_n 0, 1) := by decide +kernel
theorem dX9_tell_17 : decode cX9_tell 17 = .ok (.getfield 86, 3) := by decide +kernel
theorem dX9_tell_20 : decode cX9_tell 20 = .ok (.iload_n 1, 1) := by decide +kernel
theorem dX9_tell_21 : decode cX9_tell 21 = .ok (.iastore, 1) := by decide +kernel
theorem dX9_tell_22 : decode cX9_tell 22 = .ok (.aload_n 0, 1) := by decide +kernel
theorem dX9_tell_23 : decode cX9_tell 23 = .ok (.dup, 1) := by decide +kernel
theorem dX9_tell_24 : decode cX9_tell 24 = .ok (.getfield 86, 3) := by decide +kernel
theorem dX9_tell_27 : decode cX9_tell 27 = .ok (.iconst 1, 1) := by decide +kernel
theorem dX9_tell_28 : decode cX9_tell 28 = .ok (.iadd, 1) := by decide +kernel
theorem dX9_tell_29 : decode cX9_tell 29 = .ok (.putfield 86, 3) := by decide +kernel
theorem dX9_tell_32 : decode cX9_tell 32 = .ok (.aload_n 0, 1) := by decide +kernel
theorem dX9_tell_33 : decode cX9_tell 33 = .ok (.getfield 86, 3) := by decide +kernel
theorem dX9_tell_36 : decode cX9_tell 36 = .ok (.ireturn, 1) := by decide +kernel
theorem yd_X9_tell : yX9_tell.cls = RX9 ∧ yX9_tell.cls ≠ "java/lang/invoke/MethodHandle" ∧ yX9_tell.cls ≠ "java/lang/invoke/VarHandle" ∧ (parseMethodDescriptor yX9_tell.desc).map (fun d => d.parameters.length) = some 1 := by decide +kernel
abbrev rmX9_tell : Room := { frames := 0, cells := 0, slots := 0, locals := 0 }
def fX9_tell (o : Nat) (z : CS) (a1 : Int32) : Option (Int32 × CS) :=
  if (z.1 1) < (100 : Int32) then
    (csA z 0 100 (z.1 1) a1).bind fun z1 =>
    some (((cI z1 1 ((z1.1 1) + (1 : Int32))).1 1), (cI z1 1 ((z1.1 1) + (1 : Int32))))
  else
    some ((-2 : Int32), z)
set_option maxHeartbeats 4000000 in
set_option maxRecDepth 100000 in
theorem tX9_tell (κ : KK) (l : Launch) (o : Nat) (z : CS) (a1 : Int32) (q : Int32 × CS) (h : fX9_tell o z a1 = some q) : MM κ l yX9_tell cX9_tell 2 (some .int) rmX9_tell (CA o) [.ref o, .int a1] (CB κ o z) (some (Value.int q.1)) (CB κ o q.2) := by
  refine MM.of (by decide +kernel) (Nat.le_of_ble_eq_true rfl) ?_
  intro p e s m below meth c C hnm
  unfold fX9_tell at h
  refine G_sub (lv' := [(0, .ref o), (1, .int a1)]) [0, 1] rfl ?_
  refine G_aload_n (pc' := 1) C dX9_tell_0 0 rfl rfl ?_
  refine G_get (pc' := 4) (k := 13) C fi_X9 dX9_tell_1 tw_fl_X9_86 rfl (by decide) (CB_rd 0 rfl) rfl rfl ?_
  refine G_bipush (pc' := 6) (v := (100 : Int32)) C dX9_tell_4 (by decide) rfl ?_
  refine G_icmp_lt (tgt := 12) (pc' := 9) C dX9_tell_6 (by decide) rfl (fun hc => ?_) (fun hc => ?_)
  · replace h := z_ip hc h
    refine G_aload_n (pc' := 13) C dX9_tell_12 0 rfl rfl ?_
    refine G_get (pc' := 16) (k := 3) C fi_X9 dX9_tell_13 tw_fl_X9_24 rfl (by decide) (CB_rd 0 rfl) rfl rfl ?_
    refine G_aload_n (pc' := 17) C dX9_tell_16 0 rfl rfl ?_
    refine G_get (pc' := 20) (k := 13) C fi_X9 dX9_tell_17 tw_fl_X9_86 rfl (by decide) (CB_rd 0 rfl) rfl rfl ?_
    refine G_iload_n (pc' := 21) C dX9_tell_20 1 rfl rfl ?_
    replace h := ob h
    obtain ⟨z1, hz1, h⟩ := h
    refine C_s_4 (pc' := 22) C dX9_tell_21 hz1 rfl ?_
    refine G_aload_n (pc' := 23) C dX9_tell_22 0 rfl rfl ?_
    refine G_dup (pc' := 24) C dX9_tell_23 rfl rfl ?_
    refine G_get (pc' := 27) (k := 13) C fi_X9 dX9_tell_24 tw_fl_X9_86 rfl (by decide) (CB_rd 0 rfl) rfl rfl ?_
    refine G_iconst (pc' := 28) (v := (1 : Int32)) C dX9_tell_27 (by decide) rfl ?_
    refine G_iadd (pc' := 29) C dX9_tell_28 rfl ?_
    refine G_put (pc' := 32) (k := 13) C fi_X9 dX9_tell_29 tw_fl_X9_86 rfl (by decide) rfl rfl rfl (Nat.le_of_ble_eq_true rfl) (CB_rd 0 rfl) (CB_wr (cI z1 1 ((z1.1 1) + (1 : Int32))) 0 (by decide) rfl rfl) rfl ?_
    refine G_aload_n (pc' := 33) C dX9_tell_32 0 rfl rfl ?_
    refine G_get (pc' := 36) (k := 13) C fi_X9 dX9_tell_33 tw_fl_X9_86 rfl (by decide) (CB_rd 0 rfl) rfl rfl ?_
    refine G_widen (k := rmX9_tell.cells) (n := rmX9_tell.slots) (by decide) (by decide) ?_
    obtain rfl := Option.some.inj h
    exact G_iret C dX9_tell_36 (fun _ h => h)
  · replace h := z_in hc h
    refine G_bipush (pc' := 11) (v := (-2 : Int32)) C dX9_tell_9 (by decide) rfl ?_
    refine G_widen (k := rmX9_tell.cells) (n := rmX9_tell.slots) (by decide) (by decide) ?_
    obtain rfl := Option.some.inj h
    exact G_iret C dX9_tell_11 (fun _ h => h)
theorem dX9_saidByInner_0 : decode cX9_saidByInner 0 = .ok (.iload_n 1, 1) := by decide +kernel
theorem dX9_saidByInner_1 : decode cX9_saidByInner 1 = .ok (.istore_n 2, 1) := by decide +kernel
theorem dX9_saidByInner_2 : decode cX9_saidByInner 2 = .ok (.iconst 0, 1) := by decide +kernel
theorem dX9_saidByInner_3 : decode cX9_saidByInner 3 = .ok (.istore_n 3, 1) := by decide +kernel
theorem dX9_saidByInner_4 : decode cX9_saidByInner 4 = .ok (.iconst 0, 1) := by decide +kernel
theorem dX9_saidByInner_5 : decode cX9_saidByInner 5 = .ok (.istore 4, 2) := by decide +kernel
theorem dX9_saidByInner_7 : decode cX9_saidByInner 7 = .ok (.iload 4, 2) := by decide +kernel
theorem dX9_saidByInner_9 : decode cX9_saidByInner 9 = .ok (.aload_n 0, 1) := by decide +kernel
theorem dX9_saidByInner_10 : decode cX9_saidByInner 10 = .ok (.getfield 86, 3) := by decide +kernel
theorem dX9_saidByInner_13 : decode cX9_saidByInner 13 = .ok (.if_icmp .ge 53, 3) := by decide +kernel
theorem dX9_saidByInner_16 : decode cX9_saidByInner 16 = .ok (.aload_n 0, 1) := by decide +kernel
theorem dX9_saidByInner_17 : decode cX9_saidByInner 17 = .ok (.getfield 17, 3) := by decide +kernel
theorem dX9_saidByInner_20 : decode cX9_saidByInner 20 = .ok (.aload_n 0, 1) := by decide +kernel
theorem dX9_saidByInner_21 : decode cX9_saidByInner 21 = .ok (.getfield 24, 3) := by decide +kernel
theorem dX9_saidByInner_24 : decode cX9_saidByInner 24 = .ok (.iload 4, 2) := by decide +kernel
theorem dX9_saidByInner_26 : decode cX9_saidByInner 26 = .ok (.iaload, 1) := by decide +kernel
theorem dX9_saidByInner_27 : decode cX9_saidByInner 27 = .ok (.aaload, 1) := by decide +kernel
theorem dX9_saidByInner_28 : decode cX9_saidByInner 28 = .ok (.astore 5, 2) := by decide +kernel
theorem dX9_saidByInner_30 : decode cX9_saidByInner 30 = .ok (.iload_n 3, 1) := by decide +kernel
theorem dX9_saidByInner_31 : decode cX9_saidByInner 31 = .ok (.aload 5, 2) := by decide +kernel
theorem dX9_saidByInner_33 : decode cX9_saidByInner 33 = .ok (.getfield 155, 3) := by decide +kernel
theorem dX9_saidByInner_36 : decode cX9_saidByInner 36 = .ok (.iload_n 2, 1) := by decide +kernel
theorem dX9_saidByInner_37 : decode cX9_saidByInner 37 = .ok (.aload 5, 2) := by decide +kernel
theorem dX9_saidByInner_39 : decode cX9_saidByInner 39 = .ok (.getfield 155, 3) := by decide +kernel
theorem dX9_saidByInner_42 : decode cX9_saidByInner 42 = .ok (.arraylength, 1) := by decide +kernel
theorem dX9_saidByInner_43 : decode cX9_saidByInner 43 = .ok (.iconst 1, 1) := by decide +kernel
theorem dX9_saidByInner_44 : decode cX9_saidByInner 44 = .ok (.isub, 1) := by decide +kernel
theorem dX9_saidByInner_45 : decode cX9_saidByInner 45 = .ok (.iand, 1) := by decide +kernel
theorem dX9_saidByInner_46 : decode cX9_saidByInner 46 = .ok (.baload, 1) := by decide +kernel
theorem dX9_saidByInner_47 : decode cX9_saidByInner 47 = .ok (.iload 4, 2) := by decide +kernel
theorem dX9_saidByInner_49 : decode cX9_saidByInner 49 = .ok (.ishl, 1) := by decide +kernel
theorem dX9_saidByInner_50 : decode cX9_saidByInner 50 = .ok (.ior, 1) := by decide +kernel
theorem dX9_saidByInner_51 : decode cX9_saidByInner 51 = .ok (.istore_n 3, 1) := by decide +kernel
theorem dX9_saidByInner_52 : decode cX9_saidByInner 52 = .ok (.iload_n 2, 1) := by decide +kernel
theorem dX9_saidByInner_53 : decode cX9_saidByInner 53 = .ok (.aload 5, 2) := by decide +kernel
theorem dX9_saidByInner_55 : decode cX9_saidByInner 55 = .ok (.getfield 152, 3) := by decide +kernel
theorem dX9_saidByInner_58 : decode cX9_saidByInner 58 = .ok (.ishr, 1) := by decide +kernel
theorem dX9_saidByInner_59 : decode cX9_saidByInner 59 = .ok (.istore_n 2, 1) := by decide +kernel
theorem dX9_saidByInner_60 : decode cX9_saidByInner 60 = .ok (.iinc 4 1, 3) := by decide +kernel
theorem dX9_saidByInner_63 : decode cX9_saidByInner 63 = .ok (.goto (-56), 3) := by decide +kernel
theorem dX9_saidByInner_66 : decode cX9_saidByInner 66 = .ok (.iload_n 3, 1) := by decide +kernel
theorem dX9_saidByInner_67 : decode cX9_saidByInner 67 = .ok (.ireturn, 1) := by decide +kernel
theorem yd_X9_saidByInner : yX9_saidByInner.cls = RX9 ∧ yX9_saidByInner.cls ≠ "java/lang/invoke/MethodHandle" ∧ yX9_saidByInner.cls ≠ "java/lang/invoke/VarHandle" ∧ (parseMethodDescriptor yX9_saidByInner.desc).map (fun d => d.parameters.length) = some 1 := by decide +kernel
abbrev rmX9_saidByInner : Room := { frames := 0, cells := 0, slots := 0, locals := 0 }
def fX9_saidByInner_L7 (o : Nat) (z : CS) (l2 : Int32) (l3 : Int32) (l4 : Int32) : Option ((Int32 × Int32 × Int32) ⊕ Int32) :=
  if (z.1 1) ≤ l4 then
    some (.inr l3)
  else
    (aI 100 (z.2.1 0) l4).bind fun v1 =>
    (aQ 8 (z.2.2.1 1) v1).bind fun v2 =>
    (v2).bind fun ad3 =>
    (dT z ad3).bind fun t4 =>
    (dT z ad3).bind fun t5 =>
    (t5.2.2.2).bind fun ad6 =>
    (lnB z ad6).bind fun v7 =>
    (t4.2.2.2).bind fun ad8 =>
    (rdB z ad8 (l2 &&& (v7 - (1 : Int32)))).bind fun v9 =>
    (dT z ad3).bind fun t10 =>
    some (.inl ((l2 >>> (t10.2.1 &&& 31)), (l3 ||| (v9 <<< (l4 &&& 31))), (l4 + (1 : Int32))))
def fX9_saidByInner (o : Nat) (z : CS) (a1 : Int32) : Option (Int32) :=
  (lpN (fun u => fX9_saidByInner_L7 o z u.1 u.2.1 u.2.2) bigN (a1, (0 : Int32), (0 : Int32))).bind fun e11 =>
  some e11
set_option maxHeartbeats 4000000 in
set_option maxRecDepth 100000 in
theorem tX9_saidByInner_L7 {κ : KK} {p : Program} {l : Launch} {e : Env} {s : State} {m : MethodId} {args : Array Value} {below : List Frame} {meth : Method} {c : Code} (C : Cx κ p s m args meth c cX9_saidByInner 6 RX9 (some .int)) {o : Nat} {v : Option Value} {B' : Heap → Prop} {z : CS} {l2 : Int32} {l3 : Int32} {l4 : Int32} {y : (Int32 × Int32 × Int32) ⊕ Int32} (h : fX9_saidByInner_L7 o z l2 l3 l4 = some y) (kc : ∀ u, y = .inl u → GC κ p l e s m args below meth c rmX9_saidByInner 6 o v B' 0 0 z 7 [(0, .ref o), (2, .int u.1), (3, .int u.2.1), (4, .int u.2.2)] []) (kx : ∀ w, y = .inr w → GC κ p l e s m args below meth c rmX9_saidByInner 6 o v B' 0 0 z 66 [(3, .int w)] []) : GC κ p l e s m args below meth c rmX9_saidByInner 6 o v B' 0 0 z 7 [(0, .ref o), (2, .int l2), (3, .int l3), (4, .int l4)] [] := by
  unfold fX9_saidByInner_L7 at h
  refine G_iload (pc' := 9) C dX9_saidByInner_7 3 rfl rfl ?_
  refine G_aload_n (pc' := 10) C dX9_saidByInner_9 0 rfl rfl ?_
  refine G_get (pc' := 13) (k := 13) C fi_X9 dX9_saidByInner_10 tw_fl_X9_86 rfl (by decide) (CB_rd 0 rfl) rfl rfl ?_
  refine G_icmp_ge (tgt := 66) (pc' := 16) C dX9_saidByInner_13 (by decide) rfl (fun hc => ?_) (fun hc => ?_)
  · replace h := z_ip hc h
    exact G_sub (lv' := [(3, .int l3)]) [2] rfl (kx _ (Option.some.inj h).symm)
  · replace h := z_in hc h
    refine G_aload_n (pc' := 17) C dX9_saidByInner_16 0 rfl rfl ?_
    refine G_get (pc' := 20) (k := 1) C fi_X9 dX9_saidByInner_17 tw_fl_X9_17 rfl (by decide) (CB_rd 0 rfl) rfl rfl ?_
    refine G_aload_n (pc' := 21) C dX9_saidByInner_20 0 rfl rfl ?_
    refine G_get (pc' := 24) (k := 3) C fi_X9 dX9_saidByInner_21 tw_fl_X9_24 rfl (by decide) (CB_rd 0 rfl) rfl rfl ?_
    refine G_iload (pc' := 26) C dX9_saidByInner_24 3 rfl rfl ?_
    replace h := ob h
    obtain ⟨v1, hv1, h⟩ := h
    refine G_ialdV (pc' := 27) C dX9_saidByInner_26 (CB_rd 4 rfl) hv1 rfl ?_
    replace h := ob h
    obtain ⟨v2, hv2, h⟩ := h
    refine G_aald5V (pc' := 28) C dX9_saidByInner_27 (CB_rd 2 rfl) hv2 rfl ?_
    refine G_qstore (pc' := 30) C dX9_saidByInner_28 [(5, va_rf v2), (0, .ref o), (2, .int l2), (3, .int l3), (4, .int l4)] (by decide) rfl rfl ?_
    refine G_iload_n (pc' := 31) C dX9_saidByInner_30 3 rfl rfl ?_
    refine G_qload (pc' := 33) C dX9_saidByInner_31 0 rfl rfl ?_
    replace h := ob h
    obtain ⟨ad3, had3, h⟩ := h
    subst had3
    replace h := ob h
    obtain ⟨t4, ht4, h⟩ := h
    refine G_get (pc' := 36) (k := 3) C fi_X8 dX9_saidByInner_33 tw_fl_X9_155 rfl (by decide) (CB_T ht4) rfl rfl ?_
    refine G_iload_n (pc' := 37) C dX9_saidByInner_36 2 rfl rfl ?_
    refine G_aload (pc' := 39) C dX9_saidByInner_37 0 rfl rfl ?_
    replace h := ob h
    obtain ⟨t5, ht5, h⟩ := h
    refine G_get (pc' := 42) (k := 3) C fi_X8 dX9_saidByInner_39 tw_fl_X9_155 rfl (by decide) (CB_T ht5) rfl rfl ?_
    replace h := ob h
    obtain ⟨ad6, had6, h⟩ := h
    rw [had6]
    replace h := ob h
    obtain ⟨v7, hv7, h⟩ := h
    refine P_lenB (pc' := 43) C dX9_saidByInner_42 hv7 rfl ?_
    refine G_iconst (pc' := 44) (v := (1 : Int32)) C dX9_saidByInner_43 (by decide) rfl ?_
    refine G_isub (pc' := 45) C dX9_saidByInner_44 rfl ?_
    refine G_iand (pc' := 46) C dX9_saidByInner_45 rfl ?_
    replace h := ob h
    obtain ⟨ad8, had8, h⟩ := h
    rw [had8]
    replace h := ob h
    obtain ⟨v9, hv9, h⟩ := h
    refine P_bald (pc' := 47) C dX9_saidByInner_46 hv9 rfl ?_
    refine G_iload (pc' := 49) C dX9_saidByInner_47 4 rfl rfl ?_
    refine G_ishl (pc' := 50) C dX9_saidByInner_49 rfl ?_
    refine G_ior (pc' := 51) C dX9_saidByInner_50 rfl ?_
    refine G_istore_n (pc' := 52) C dX9_saidByInner_51 [(3, .int (l3 ||| (v9 <<< (l4 &&& 31)))), (5, .ref ad3), (0, .ref o), (2, .int l2), (4, .int l4)] (by decide) rfl rfl ?_
    refine G_iload_n (pc' := 53) C dX9_saidByInner_52 3 rfl rfl ?_
    refine G_aload (pc' := 55) C dX9_saidByInner_53 1 rfl rfl ?_
    replace h := ob h
    obtain ⟨t10, ht10, h⟩ := h
    refine G_get (pc' := 58) (k := 1) C fi_X8 dX9_saidByInner_55 tw_fl_X9_152 rfl (by decide) (CB_T ht10) rfl rfl ?_
    refine G_ishr (pc' := 59) C dX9_saidByInner_58 rfl ?_
    refine G_istore_n (pc' := 60) C dX9_saidByInner_59 [(2, .int (l2 >>> (t10.2.1 &&& 31))), (3, .int (l3 ||| (v9 <<< (l4 &&& 31)))), (5, .ref ad3), (0, .ref o), (4, .int l4)] (by decide) rfl rfl ?_
    refine G_iinc (pc' := 63) C dX9_saidByInner_60 4 rfl rfl [(4, .int (l4 + (1 : Int32))), (2, .int (l2 >>> (t10.2.1 &&& 31))), (3, .int (l3 ||| (v9 <<< (l4 &&& 31)))), (5, .ref ad3), (0, .ref o)] (by decide) rfl rfl ?_
    refine G_goto (tgt := 7) C dX9_saidByInner_63 (by decide) ?_
    exact G_sub (lv' := [(0, .ref o), (2, .int (l2 >>> (t10.2.1 &&& 31))), (3, .int (l3 ||| (v9 <<< (l4 &&& 31)))), (4, .int (l4 + (1 : Int32)))]) [4, 1, 2, 0] rfl (kc ((l2 >>> (t10.2.1 &&& 31)), (l3 ||| (v9 <<< (l4 &&& 31))), (l4 + (1 : Int32))) (Option.some.inj h).symm)
set_option maxHeartbeats 4000000 in
set_option maxRecDepth 100000 in
theorem tX9_saidByInner (κ : KK) (l : Launch) (o : Nat) (z : CS) (a1 : Int32) (q : Int32) (h : fX9_saidByInner o z a1 = some q) : MM κ l yX9_saidByInner cX9_saidByInner 6 (some .int) rmX9_saidByInner (CA o) [.ref o, .int a1] (CB κ o z) (some (Value.int q)) (CB κ o z) := by
  refine MM.of (by decide +kernel) (Nat.le_of_ble_eq_true rfl) ?_
  intro p e s m below meth c C hnm
  unfold fX9_saidByInner at h
  refine G_sub (lv' := [(0, .ref o), (1, .int a1)]) [0, 1] rfl ?_
  refine G_iload_n (pc' := 1) C dX9_saidByInner_0 1 rfl rfl ?_
  refine G_istore_n (pc' := 2) C dX9_saidByInner_1 [(2, .int a1), (0, .ref o), (1, .int a1)] (by decide) rfl rfl ?_
  refine G_iconst (pc' := 3) (v := (0 : Int32)) C dX9_saidByInner_2 (by decide) rfl ?_
  refine G_istore_n (pc' := 4) C dX9_saidByInner_3 [(3, .int (0 : Int32)), (2, .int a1), (0, .ref o), (1, .int a1)] (by decide) rfl rfl ?_
  refine G_iconst (pc' := 5) (v := (0 : Int32)) C dX9_saidByInner_4 (by decide) rfl ?_
  refine G_istore (pc' := 7) C dX9_saidByInner_5 [(4, .int (0 : Int32)), (3, .int (0 : Int32)), (2, .int a1), (0, .ref o), (1, .int a1)] (by decide) rfl rfl ?_
  replace h := ob h
  obtain ⟨e11, hle11, h⟩ := h
  refine G_sub (lv' := [(0, .ref o), (2, .int a1), (3, .int (0 : Int32)), (4, .int (0 : Int32))]) [3, 2, 1, 0] rfl ?_
  refine lpN_ind (body := fun u => fX9_saidByInner_L7 o z u.1 u.2.1 u.2.2) (P := fun u => GC κ p l e s m ([.ref o, .int a1] : List Value).toArray below meth c rmX9_saidByInner 6 o (some (Value.int q)) (CB κ o z) 0 0 z 7 [(0, .ref o), (2, .int u.1), (3, .int u.2.1), (4, .int u.2.2)] []) (X := fun w => GC κ p l e s m ([.ref o, .int a1] : List Value).toArray below meth c rmX9_saidByInner 6 o (some (Value.int q)) (CB κ o z) 0 0 z 66 [(3, .int w)] []) (fun u y hb kc kx => tX9_saidByInner_L7 C hb kc kx) _ _ _ hle11 ?_
  refine G_iload_n (pc' := 67) C dX9_saidByInner_66 0 rfl rfl ?_
  obtain rfl := Option.some.inj h
  exact G_iret C dX9_saidByInner_67 (fun _ h => h)
theorem dX9_putTogether_0 : decode cX9_putTogether 0 = .ok (.iconst 0, 1) := by decide +kernel
theorem dX9_putTogether_1 : decode cX9_putTogether 1 = .ok (.istore_n 2, 1) := by decide +kernel
theorem dX9_putTogether_2 : decode cX9_putTogether 2 = .ok (.iconst 0, 1) := by decide +kernel
theorem dX9_putTogether_3 : decode cX9_putTogether 3 = .ok (.istore_n 3, 1) := by decide +kernel
theorem dX9_putTogether_4 : decode cX9_putTogether 4 = .ok (.iconst 0, 1) := by decide +kernel
theorem dX9_putTogether_5 : decode cX9_putTogether 5 = .ok (.istore 4, 2) := by decide +kernel
theorem dX9_putTogether_7 : decode cX9_putTogether 7 = .ok (.iload 4, 2) := by decide +kernel
theorem dX9_putTogether_9 : decode cX9_putTogether 9 = .ok (.aload_n 0, 1) := by decide +kernel
theorem dX9_putTogether_10 : decode cX9_putTogether 10 = .ok (.getfield 86, 3) := by decide +kernel
theorem dX9_putTogether_13 : decode cX9_putTogether 13 = .ok (.if_icmp .ge 45, 3) := by decide +kernel
theorem dX9_putTogether_16 : decode cX9_putTogether 16 = .ok (.iload_n 2, 1) := by decide +kernel
theorem dX9_putTogether_17 : decode cX9_putTogether 17 = .ok (.aload_n 0, 1) := by decide +kernel
theorem dX9_putTogether_18 : decode cX9_putTogether 18 = .ok (.getfield 17, 3) := by decide +kernel
theorem dX9_putTogether_21 : decode cX9_putTogether 21 = .ok (.aload_n 0, 1) := by decide +kernel
theorem dX9_putTogether_22 : decode cX9_putTogether 22 = .ok (.getfield 24, 3) := by decide +kernel
theorem dX9_putTogether_25 : decode cX9_putTogether 25 = .ok (.iload 4, 2) := by decide +kernel
theorem dX9_putTogether_27 : decode cX9_putTogether 27 = .ok (.iaload, 1) := by decide +kernel
theorem dX9_putTogether_28 : decode cX9_putTogether 28 = .ok (.aaload, 1) := by decide +kernel
theorem dX9_putTogether_29 : decode cX9_putTogether 29 = .ok (.getfield 152, 3) := by decide +kernel
theorem dX9_putTogether_32 : decode cX9_putTogether 32 = .ok (.iadd, 1) := by decide +kernel
theorem dX9_putTogether_33 : decode cX9_putTogether 33 = .ok (.istore_n 2, 1) := by decide +kernel
theorem dX9_putTogether_34 : decode cX9_putTogether 34 = .ok (.iload_n 3, 1) := by decide +kernel
theorem dX9_putTogether_35 : decode cX9_putTogether 35 = .ok (.aload_n 0, 1) := by decide +kernel
theorem dX9_putTogether_36 : decode cX9_putTogether 36 = .ok (.getfield 17, 3) := by decide +kernel
theorem dX9_putTogether_39 : decode cX9_putTogether 39 = .ok (.aload_n 0, 1) := by decide +kernel
theorem dX9_putTogether_40 : decode cX9_putTogether 40 = .ok (.getfield 24, 3) := by decide +kernel
theorem dX9_putTogether_43 : decode cX9_putTogether 43 = .ok (.iload 4, 2) := by decide +kernel
theorem dX9_putTogether_45 : decode cX9_putTogether 45 = .ok (.iaload, 1) := by decide +kernel
theorem dX9_putTogether_46 : decode cX9_putTogether 46 = .ok (.aaload, 1) := by decide +kernel
theorem dX9_putTogether_47 : decode cX9_putTogether 47 = .ok (.getfield 184, 3) := by decide +kernel
theorem dX9_putTogether_50 : decode cX9_putTogether 50 = .ok (.iadd, 1) := by decide +kernel
theorem dX9_putTogether_51 : decode cX9_putTogether 51 = .ok (.istore_n 3, 1) := by decide +kernel
theorem dX9_putTogether_52 : decode cX9_putTogether 52 = .ok (.iinc 4 1, 3) := by decide +kernel
theorem dX9_putTogether_55 : decode cX9_putTogether 55 = .ok (.goto (-48), 3) := by decide +kernel
theorem dX9_putTogether_58 : decode cX9_putTogether 58 = .ok (.iconst 1, 1) := by decide +kernel
theorem dX9_putTogether_59 : decode cX9_putTogether 59 = .ok (.iload_n 2, 1) := by decide +kernel
theorem dX9_putTogether_60 : decode cX9_putTogether 60 = .ok (.ishl, 1) := by decide +kernel
theorem dX9_putTogether_61 : decode cX9_putTogether 61 = .ok (.newarray .byte, 2) := by decide +kernel
theorem dX9_putTogether_63 : decode cX9_putTogether 63 = .ok (.astore 4, 2) := by decide +kernel
theorem dX9_putTogether_65 : decode cX9_putTogether 65 = .ok (.iconst 0, 1) := by decide +kernel
theorem dX9_putTogether_66 : decode cX9_putTogether 66 = .ok (.istore 5, 2) := by decide +kernel
theorem dX9_putTogether_68 : decode cX9_putTogether 68 = .ok (.iload 5, 2) := by decide +kernel
theorem dX9_putTogether_70 : decode cX9_putTogether 70 = .ok (.aload 4, 2) := by decide +kernel
theorem dX9_putTogether_72 : decode cX9_putTogether 72 = .ok (.arraylength, 1) := by decide +kernel
theorem dX9_putTogether_73 : decode cX9_putTogether 73 = .ok (.if_icmp .ge 25, 3) := by decide +kernel
theorem dX9_putTogether_76 : decode cX9_putTogether 76 = .ok (.aload 4, 2) := by decide +kernel
theorem dX9_putTogether_78 : decode cX9_putTogether 78 = .ok (.iload 5, 2) := by decide +kernel
theorem dX9_putTogether_80 : decode cX9_putTogether 80 = .ok (.aload_n 1, 1) := by decide +kernel
theorem dX9_putTogether_81 : decode cX9_putTogether 81 = .ok (.getfield 155, 3) := by decide +kernel
theorem dX9_putTogether_84 : decode cX9_putTogether 84 = .ok (.aload_n 0, 1) := by decide +kernel
theorem dX9_putTogether_85 : decode cX9_putTogether 85 = .ok (.iload 5, 2) := by decide +kernel
theorem dX9_putTogether_87 : decode cX9_putTogether 87 = .ok (.invokevirtual 199, 3) := by decide +kernel
theorem dX9_putTogether_90 : decode cX9_putTogether 90 = .ok (.baload, 1) := by decide +kernel
theorem dX9_putTogether_91 : decode cX9_putTogether 91 = .ok (.bastore, 1) := by decide +kernel
theorem dX9_putTogether_92 : decode cX9_putTogether 92 = .ok (.iinc 5 1, 3) := by decide +kernel
theorem dX9_putTogether_95 : decode cX9_putTogether 95 = .ok (.goto (-27), 3) := by decide +kernel
theorem dX9_putTogether_98 : decode cX9_putTogether 98 = .ok (.new 15, 3) := by decide +kernel
theorem dX9_putTogether_101 : decode cX9_putTogether 101 = .ok (.dup, 1) := by decide +kernel
theorem dX9_putTogether_102 : decode cX9_putTogether 102 = .ok (.iconst 3, 1) := by decide +kernel
theorem dX9_putTogether_103 : decode cX9_putTogether 103 = .ok (.iload_n 2, 1) := by decide +kernel
theorem dX9_putTogether_104 : decode cX9_putTogether 104 = .ok (.iload_n 3, 1) := by decide +kernel
theorem dX9_putTogether_105 : decode cX9_putTogether 105 = .ok (.aload 4, 2) := by decide +kernel
theorem dX9_putTogether_107 : decode cX9_putTogether 107 = .ok (.invokespecial 202, 3) := by decide +kernel
theorem dX9_putTogether_110 : decode cX9_putTogether 110 = .ok (.areturn, 1) := by decide +kernel
theorem yd_X9_putTogether : yX9_putTogether.cls = RX9 ∧ yX9_putTogether.cls ≠ "java/lang/invoke/MethodHandle" ∧ yX9_putTogether.cls ≠ "java/lang/invoke/VarHandle" ∧ (parseMethodDescriptor yX9_putTogether.desc).map (fun d => d.parameters.length) = some 1 := by decide +kernel
abbrev rmX9_putTogether : Room := { frames := 2, cells := 2, slots := 260, locals := 48 }
def fX9_putTogether_L7 (o : Nat) (z : CS) (l1 : Nat) (l2 : Int32) (l3 : Int32) (l4 : Int32) : Option ((Int32 × Int32 × Int32) ⊕ (Int32 × Int32)) :=
  if (z.1 1) ≤ l4 then
    some (.inr (l2, l3))
  else
    (aI 100 (z.2.1 0) l4).bind fun v1 =>
    (aQ 8 (z.2.2.1 1) v1).bind fun v2 =>
    (v2).bind fun ad3 =>
    (dT z ad3).bind fun t4 =>
    (aI 100 (z.2.1 0) l4).bind fun v5 =>
    (aQ 8 (z.2.2.1 1) v5).bind fun v6 =>
    (v6).bind fun ad7 =>
    (dT z ad7).bind fun t8 =>
    some (.inl ((l2 + t4.2.1), (l3 + t8.2.2.1), (l4 + (1 : Int32))))
def fX9_putTogether_L68 (o : Nat) (z : CS) (l1 : Nat) (l2 : Int32) (l3 : Int32) (l4 : Nat) (l5 : Int32) : Option ((Int32 × CS) ⊕ CS) :=
  (lnB z l4).bind fun v11 =>
  if v11 ≤ l5 then
    some (.inr z)
  else
    (dT z l1).bind fun t12 =>
    (fX9_saidByInner o z l5).bind fun q13 =>
    (t12.2.2.2).bind fun ad14 =>
    (rdB z ad14 q13).bind fun v15 =>
    (stB o z l4 l5 v15).bind fun z16 =>
    some (.inl ((l5 + (1 : Int32)), z16))
def fX9_putTogether (o : Nat) (z : CS) (a1 : Nat) : Option (Nat × CS) :=
  (lpN (fun u => fX9_putTogether_L7 o z a1 u.1 u.2.1 u.2.2) bigN ((0 : Int32), (0 : Int32), (0 : Int32))).bind fun e9 =>
  (alB o z ((1 : Int32) <<< (e9.1 &&& 31))).bind fun u10 =>
  (lpN (fun u => fX9_putTogether_L68 o u.2 a1 e9.1 e9.2 u10.1 u.1) bigN ((0 : Int32), u10.2)).bind fun e17 =>
  (alT o e17).bind fun u18 =>
  (fX8_init o u18.2 u18.1 (3 : Int32) e9.1 e9.2 u10.1).bind fun q19 =>
  some (u18.1, q19)
set_option maxHeartbeats 4000000 in
set_option maxRecDepth 100000 in
theorem tX9_putTogether_L7 {κ : KK} {p : Program} {l : Launch} {e : Env} {s : State} {m : MethodId} {args : Array Value} {below : List Frame} {meth : Method} {c : Code} (C : Cx κ p s m args meth c cX9_putTogether 6 RX9 (some (.object "QuestionBench$Task"))) {o : Nat} {v : Option Value} {B' : Heap → Prop} {z : CS} {l1 : Nat} {l2 : Int32} {l3 : Int32} {l4 : Int32} {y : (Int32 × Int32 × Int32) ⊕ (Int32 × Int32)} (h : fX9_putTogether_L7 o z l1 l2 l3 l4 = some y) (kc : ∀ u, y = .inl u → GC κ p l e s m args below meth c rmX9_putTogether 6 o v B' 0 0 z 7 [(0, .ref o), (1, .ref l1), (2, .int u.1), (3, .int u.2.1), (4, .int u.2.2)] []) (kx : ∀ w, y = .inr w → GC κ p l e s m args below meth c rmX9_putTogether 6 o v B' 0 0 z 58 [(0, .ref o), (1, .ref l1), (2, .int w.1), (3, .int w.2)] []) : GC κ p l e s m args below meth c rmX9_putTogether 6 o v B' 0 0 z 7 [(0, .ref o), (1, .ref l1), (2, .int l2), (3, .int l3), (4, .int l4)] [] := by
  unfold fX9_putTogether_L7 at h
  refine G_iload (pc' := 9) C dX9_putTogether_7 4 rfl rfl ?_
  refine G_aload_n (pc' := 10) C dX9_putTogether_9 0 rfl rfl ?_
  refine G_get (pc' := 13) (k := 13) C fi_X9 dX9_putTogether_10 tw_fl_X9_86 rfl (by decide) (CB_rd 0 rfl) rfl rfl ?_
  refine G_icmp_ge (tgt := 58) (pc' := 16) C dX9_putTogether_13 (by decide) rfl (fun hc => ?_) (fun hc => ?_)
  · replace h := z_ip hc h
    exact G_sub (lv' := [(0, .ref o), (1, .ref l1), (2, .int l2), (3, .int l3)]) [0, 1, 2, 3] rfl (kx _ (Option.some.inj h).symm)
  · replace h := z_in hc h
    refine G_iload_n (pc' := 17) C dX9_putTogether_16 2 rfl rfl ?_
    refine G_aload_n (pc' := 18) C dX9_putTogether_17 0 rfl rfl ?_
    refine G_get (pc' := 21) (k := 1) C fi_X9 dX9_putTogether_18 tw_fl_X9_17 rfl (by decide) (CB_rd 0 rfl) rfl rfl ?_
    refine G_aload_n (pc' := 22) C dX9_putTogether_21 0 rfl rfl ?_
    refine G_get (pc' := 25) (k := 3) C fi_X9 dX9_putTogether_22 tw_fl_X9_24 rfl (by decide) (CB_rd 0 rfl) rfl rfl ?_
    refine G_iload (pc' := 27) C dX9_putTogether_25 4 rfl rfl ?_
    replace h := ob h
    obtain ⟨v1, hv1, h⟩ := h
    refine G_ialdV (pc' := 28) C dX9_putTogether_27 (CB_rd 4 rfl) hv1 rfl ?_
    replace h := ob h
    obtain ⟨v2, hv2, h⟩ := h
    refine G_aald5V (pc' := 29) C dX9_putTogether_28 (CB_rd 2 rfl) hv2 rfl ?_
    replace h := ob h
    obtain ⟨ad3, had3, h⟩ := h
    subst had3
    replace h := ob h
    obtain ⟨t4, ht4, h⟩ := h
    refine G_get (pc' := 32) (k := 1) C fi_X8 dX9_putTogether_29 tw_fl_X9_152 rfl (by decide) (CB_T ht4) rfl rfl ?_
    refine G_iadd (pc' := 33) C dX9_putTogether_32 rfl ?_
    refine G_istore_n (pc' := 34) C dX9_putTogether_33 [(2, .int (l2 + t4.2.1)), (0, .ref o), (1, .ref l1), (3, .int l3), (4, .int l4)] (by decide) rfl rfl ?_
    refine G_iload_n (pc' := 35) C dX9_putTogether_34 3 rfl rfl ?_
    refine G_aload_n (pc' := 36) C dX9_putTogether_35 1 rfl rfl ?_
    refine G_get (pc' := 39) (k := 1) C fi_X9 dX9_putTogether_36 tw_fl_X9_17 rfl (by decide) (CB_rd 0 rfl) rfl rfl ?_
    refine G_aload_n (pc' := 40) C dX9_putTogether_39 1 rfl rfl ?_
    refine G_get (pc' := 43) (k := 3) C fi_X9 dX9_putTogether_40 tw_fl_X9_24 rfl (by decide) (CB_rd 0 rfl) rfl rfl ?_
    refine G_iload (pc' := 45) C dX9_putTogether_43 4 rfl rfl ?_
    replace h := ob h
    obtain ⟨v5, hv5, h⟩ := h
    refine G_ialdV (pc' := 46) C dX9_putTogether_45 (CB_rd 4 rfl) hv5 rfl ?_
    replace h := ob h
    obtain ⟨v6, hv6, h⟩ := h
    refine G_aald5V (pc' := 47) C dX9_putTogether_46 (CB_rd 2 rfl) hv6 rfl ?_
    replace h := ob h
    obtain ⟨ad7, had7, h⟩ := h
    subst had7
    replace h := ob h
    obtain ⟨t8, ht8, h⟩ := h
    refine G_get (pc' := 50) (k := 2) C fi_X8 dX9_putTogether_47 tw_fl_X9_184 rfl (by decide) (CB_T ht8) rfl rfl ?_
    refine G_iadd (pc' := 51) C dX9_putTogether_50 rfl ?_
    refine G_istore_n (pc' := 52) C dX9_putTogether_51 [(3, .int (l3 + t8.2.2.1)), (2, .int (l2 + t4.2.1)), (0, .ref o), (1, .ref l1), (4, .int l4)] (by decide) rfl rfl ?_
    refine G_iinc (pc' := 55) C dX9_putTogether_52 4 rfl rfl [(4, .int (l4 + (1 : Int32))), (3, .int (l3 + t8.2.2.1)), (2, .int (l2 + t4.2.1)), (0, .ref o), (1, .ref l1)] (by decide) rfl rfl ?_
    refine G_goto (tgt := 7) C dX9_putTogether_55 (by decide) ?_
    exact G_sub (lv' := [(0, .ref o), (1, .ref l1), (2, .int (l2 + t4.2.1)), (3, .int (l3 + t8.2.2.1)), (4, .int (l4 + (1 : Int32)))]) [3, 4, 2, 1, 0] rfl (kc ((l2 + t4.2.1), (l3 + t8.2.2.1), (l4 + (1 : Int32))) (Option.some.inj h).symm)
set_option maxHeartbeats 4000000 in
set_option maxRecDepth 100000 in
theorem tX9_putTogether_L68 {κ : KK} {p : Program} {l : Launch} {e : Env} {s : State} {m : MethodId} {args : Array Value} {below : List Frame} {meth : Method} {c : Code} (C : Cx κ p s m args meth c cX9_putTogether 6 RX9 (some (.object "QuestionBench$Task"))) {o : Nat} {v : Option Value} {B' : Heap → Prop} {z : CS} {l1 : Nat} {l2 : Int32} {l3 : Int32} {l4 : Nat} {l5 : Int32} {y : (Int32 × CS) ⊕ CS} (h : fX9_putTogether_L68 o z l1 l2 l3 l4 l5 = some y) (kc : ∀ u, y = .inl u → GC κ p l e s m args below meth c rmX9_putTogether 6 o v B' 1 256 u.2 68 [(0, .ref o), (1, .ref l1), (2, .int l2), (3, .int l3), (4, .ref l4), (5, .int u.1)] []) (kx : ∀ w, y = .inr w → GC κ p l e s m args below meth c rmX9_putTogether 6 o v B' 1 256 w 98 [(2, .int l2), (3, .int l3), (4, .ref l4)] []) : GC κ p l e s m args below meth c rmX9_putTogether 6 o v B' 1 256 z 68 [(0, .ref o), (1, .ref l1), (2, .int l2), (3, .int l3), (4, .ref l4), (5, .int l5)] [] := by
  unfold fX9_putTogether_L68 at h
  refine G_iload (pc' := 70) C dX9_putTogether_68 5 rfl rfl ?_
  refine G_aload (pc' := 72) C dX9_putTogether_70 4 rfl rfl ?_
  replace h := ob h
  obtain ⟨v11, hv11, h⟩ := h
  refine P_lenB (pc' := 73) C dX9_putTogether_72 hv11 rfl ?_
  refine G_icmp_ge (tgt := 98) (pc' := 76) C dX9_putTogether_73 (by decide) rfl (fun hc => ?_) (fun hc => ?_)
  · replace h := z_ip hc h
    exact G_sub (lv' := [(2, .int l2), (3, .int l3), (4, .ref l4)]) [2, 3, 4] rfl (kx _ (Option.some.inj h).symm)
  · replace h := z_in hc h
    refine G_aload (pc' := 78) C dX9_putTogether_76 4 rfl rfl ?_
    refine G_iload (pc' := 80) C dX9_putTogether_78 5 rfl rfl ?_
    refine G_aload_n (pc' := 81) C dX9_putTogether_80 1 rfl rfl ?_
    replace h := ob h
    obtain ⟨t12, ht12, h⟩ := h
    refine G_get (pc' := 84) (k := 3) C fi_X8 dX9_putTogether_81 tw_fl_X9_155 rfl (by decide) (CB_T ht12) rfl rfl ?_
    refine G_aload_n (pc' := 85) C dX9_putTogether_84 0 rfl rfl ?_
    refine G_iload (pc' := 87) C dX9_putTogether_85 5 rfl rfl ?_
    replace h := ob h
    obtain ⟨q13, hq13, h⟩ := h
    refine G_cV0 (pc' := 90) C dX9_putTogether_87 (tX9_saidByInner κ l o z l5 q13 hq13) (wV tw_ml_X9_199 tw_im_X9_saidByInner tw_se_X9_X9_saidByInner tw_in_X9 tw_co_X9_saidByInner) yd_X9_saidByInner rfl fi_X9 (CB_rd 0 rfl) rfl rfl (by decide) rfl (cat_le (Nat.le_of_ble_eq_true rfl)) rfl rfl ?_
    replace h := ob h
    obtain ⟨ad14, had14, h⟩ := h
    rw [had14]
    replace h := ob h
    obtain ⟨v15, hv15, h⟩ := h
    refine P_bald (pc' := 91) C dX9_putTogether_90 hv15 rfl ?_
    replace h := ob h
    obtain ⟨z16, hz16, h⟩ := h
    refine P_bast (pc' := 92) C dX9_putTogether_91 hz16 rfl ?_
    refine G_iinc (pc' := 95) C dX9_putTogether_92 5 rfl rfl [(5, .int (l5 + (1 : Int32))), (0, .ref o), (1, .ref l1), (2, .int l2), (3, .int l3), (4, .ref l4)] (by decide) rfl rfl ?_
    refine G_goto (tgt := 68) C dX9_putTogether_95 (by decide) ?_
    exact G_sub (lv' := [(0, .ref o), (1, .ref l1), (2, .int l2), (3, .int l3), (4, .ref l4), (5, .int (l5 + (1 : Int32)))]) [1, 2, 3, 4, 5, 0] rfl (kc ((l5 + (1 : Int32)), z16) (Option.some.inj h).symm)
set_option maxHeartbeats 4000000 in
set_option maxRecDepth 100000 in
theorem tX9_putTogether (κ : KK) (l : Launch) (o : Nat) (z : CS) (a1 : Nat) (q : Nat × CS) (h : fX9_putTogether o z a1 = some q) : MM κ l yX9_putTogether cX9_putTogether 6 (some (.object "QuestionBench$Task")) rmX9_putTogether (CA o) [.ref o, .ref a1] (CB κ o z) (some (Value.ref q.1)) (CB κ o q.2) := by
  refine MM.of (by decide +kernel) (Nat.le_of_ble_eq_true rfl) ?_
  intro p e s m below meth c C hnm
  unfold fX9_putTogether at h
  refine G_sub (lv' := [(0, .ref o), (1, .ref a1)]) [0, 1] rfl ?_
  refine G_iconst (pc' := 1) (v := (0 : Int32)) C dX9_putTogether_0 (by decide) rfl ?_
  refine G_istore_n (pc' := 2) C dX9_putTogether_1 [(2, .int (0 : Int32)), (0, .ref o), (1, .ref a1)] (by decide) rfl rfl ?_
  refine G_iconst (pc' := 3) (v := (0 : Int32)) C dX9_putTogether_2 (by decide) rfl ?_
  refine G_istore_n (pc' := 4) C dX9_putTogether_3 [(3, .int (0 : Int32)), (2, .int (0 : Int32)), (0, .ref o), (1, .ref a1)] (by decide) rfl rfl ?_
  refine G_iconst (pc' := 5) (v := (0 : Int32)) C dX9_putTogether_4 (by decide) rfl ?_
  refine G_istore (pc' := 7) C dX9_putTogether_5 [(4, .int (0 : Int32)), (3, .int (0 : Int32)), (2, .int (0 : Int32)), (0, .ref o), (1, .ref a1)] (by decide) rfl rfl ?_
  replace h := ob h
  obtain ⟨e9, hle9, h⟩ := h
  refine G_sub (lv' := [(0, .ref o), (1, .ref a1), (2, .int (0 : Int32)), (3, .int (0 : Int32)), (4, .int (0 : Int32))]) [3, 4, 2, 1, 0] rfl ?_
  refine lpN_ind (body := fun u => fX9_putTogether_L7 o z a1 u.1 u.2.1 u.2.2) (P := fun u => GC κ p l e s m ([.ref o, .ref a1] : List Value).toArray below meth c rmX9_putTogether 6 o (some (Value.ref q.1)) (CB κ o q.2) 0 0 z 7 [(0, .ref o), (1, .ref a1), (2, .int u.1), (3, .int u.2.1), (4, .int u.2.2)] []) (X := fun w => GC κ p l e s m ([.ref o, .ref a1] : List Value).toArray below meth c rmX9_putTogether 6 o (some (Value.ref q.1)) (CB κ o q.2) 0 0 z 58 [(0, .ref o), (1, .ref a1), (2, .int w.1), (3, .int w.2)] []) (fun u y hb kc kx => tX9_putTogether_L7 C hb kc kx) _ _ _ hle9 ?_
  refine G_iconst (pc' := 59) (v := (1 : Int32)) C dX9_putTogether_58 (by decide) rfl ?_
  refine G_iload_n (pc' := 60) C dX9_putTogether_59 2 rfl rfl ?_
  refine G_ishl (pc' := 61) C dX9_putTogether_60 rfl ?_
  replace h := ob h
  obtain ⟨u10, hu10, h⟩ := h
  refine P_newB (pc' := 63) C dX9_putTogether_61 hu10 (by decide) rfl ?_
  refine G_astore (pc' := 65) C dX9_putTogether_63 [(4, .ref u10.1), (0, .ref o), (1, .ref a1), (2, .int e9.1), (3, .int e9.2)] (by decide) rfl rfl ?_
  refine G_iconst (pc' := 66) (v := (0 : Int32)) C dX9_putTogether_65 (by decide) rfl ?_
  refine G_istore (pc' := 68) C dX9_putTogether_66 [(5, .int (0 : Int32)), (4, .ref u10.1), (0, .ref o), (1, .ref a1), (2, .int e9.1), (3, .int e9.2)] (by decide) rfl rfl ?_
  replace h := ob h
  obtain ⟨e17, hle17, h⟩ := h
  refine G_sub (lv' := [(0, .ref o), (1, .ref a1), (2, .int e9.1), (3, .int e9.2), (4, .ref u10.1), (5, .int (0 : Int32))]) [2, 3, 4, 5, 1, 0] rfl ?_
  refine lpN_ind (body := fun u => fX9_putTogether_L68 o u.2 a1 e9.1 e9.2 u10.1 u.1) (P := fun u => GC κ p l e s m ([.ref o, .ref a1] : List Value).toArray below meth c rmX9_putTogether 6 o (some (Value.ref q.1)) (CB κ o q.2) 1 256 u.2 68 [(0, .ref o), (1, .ref a1), (2, .int e9.1), (3, .int e9.2), (4, .ref u10.1), (5, .int u.1)] []) (X := fun w => GC κ p l e s m ([.ref o, .ref a1] : List Value).toArray below meth c rmX9_putTogether 6 o (some (Value.ref q.1)) (CB κ o q.2) 1 256 w 98 [(2, .int e9.1), (3, .int e9.2), (4, .ref u10.1)] []) (fun u y hb kc kx => tX9_putTogether_L68 C hb kc kx) _ _ _ hle17 ?_
  replace h := ob h
  obtain ⟨u18, hu18, h⟩ := h
  refine P_newT (pc' := 101) C dX9_putTogether_98 tw_cl_X9_15 hu18 (by decide) rfl ?_
  refine G_dup (pc' := 102) C dX9_putTogether_101 rfl rfl ?_
  refine G_iconst (pc' := 103) (v := (3 : Int32)) C dX9_putTogether_102 (by decide) rfl ?_
  refine G_iload_n (pc' := 104) C dX9_putTogether_103 0 rfl rfl ?_
  refine G_iload_n (pc' := 105) C dX9_putTogether_104 1 rfl rfl ?_
  refine G_aload (pc' := 107) C dX9_putTogether_105 2 rfl rfl ?_
  replace h := ob h
  obtain ⟨q19, hq19, h⟩ := h
  refine G_cI (pc' := 110) C dX9_putTogether_107 (tX8_init κ l o u18.2 u18.1 (3 : Int32) e9.1 e9.2 u10.1 q19 hq19) ⟨tw_ml_X9_202, tw_im_X8_init, tw_co_X8_init, tw_in_X8⟩ rfl yi_X8_init rfl (by decide) rfl (Nat.le_of_ble_eq_true rfl) rfl ?_
  refine G_widen (k := rmX9_putTogether.cells) (n := rmX9_putTogether.slots) (by decide) (by decide) ?_
  obtain rfl := Option.some.inj h
  exact G_aret C dX9_putTogether_110 (fun _ h => h)
theorem dX8_isTold_0 : decode cX8_isTold 0 = .ok (.aload_n 0, 1) := by decide +kernel
theorem dX8_isTold_1 : decode cX8_isTold 1 = .ok (.iconst 2, 1) := by decide +kernel
theorem dX8_isTold_2 : decode cX8_isTold 2 = .ok (.invokevirtual 25, 3) := by decide +kernel
theorem dX8_isTold_5 : decode cX8_isTold 5 = .ok (.iconst (-1), 1) := by decide +kernel
theorem dX8_isTold_6 : decode cX8_isTold 6 = .ok (.if_icmp .ne 7, 3) := by decide +kernel
theorem dX8_isTold_9 : decode cX8_isTold 9 = .ok (.iconst 1, 1) := by decide +kernel
theorem dX8_isTold_10 : decode cX8_isTold 10 = .ok (.goto 4, 3) := by decide +kernel
theorem dX8_isTold_13 : decode cX8_isTold 13 = .ok (.iconst 0, 1) := by decide +kernel
theorem dX8_isTold_14 : decode cX8_isTold 14 = .ok (.ireturn, 1) := by decide +kernel
theorem yd_X8_isTold : yX8_isTold.cls = RX8 ∧ yX8_isTold.cls ≠ "java/lang/invoke/MethodHandle" ∧ yX8_isTold.cls ≠ "java/lang/invoke/VarHandle" ∧ (parseMethodDescriptor yX8_isTold.desc).map (fun d => d.parameters.length) = some 0 := by decide +kernel
abbrev rmX8_isTold : Room := { frames := 1, cells := 0, slots := 0, locals := 22 }
def fX8_isTold (o : Nat) (z : CS) (a0 : Nat) : Option (Int32) :=
  (dT z a0).bind fun t2 =>
  (fX8_least o z a0 (2 : Int32)).bind fun q1 =>
  if q1 = (-1 : Int32) then
    some (1 : Int32)
  else
    some (0 : Int32)
set_option maxHeartbeats 4000000 in
set_option maxRecDepth 100000 in
theorem tX8_isTold (κ : KK) (l : Launch) (o : Nat) (z : CS) (a0 : Nat) (q : Int32) (h : fX8_isTold o z a0 = some q) : MM κ l yX8_isTold cX8_isTold 1 (some .boolean) rmX8_isTold (CA o) [.ref a0] (CB κ o z) (some (Value.int q)) (CB κ o z) := by
  refine MM.of (by decide +kernel) (Nat.le_of_ble_eq_true rfl) ?_
  intro p e s m below meth c C hnm
  unfold fX8_isTold at h
  refine G_sub (lv' := [(0, .ref a0)]) [0] rfl ?_
  refine G_aload_n (pc' := 1) C dX8_isTold_0 0 rfl rfl ?_
  refine G_iconst (pc' := 2) (v := (2 : Int32)) C dX8_isTold_1 (by decide) rfl ?_
  replace h := ob h
  obtain ⟨t2, ht2, h⟩ := h
  replace h := ob h
  obtain ⟨q1, hq1, h⟩ := h
  refine G_cV0 (pc' := 5) C dX8_isTold_2 (tX8_least κ l o z a0 (2 : Int32) q1 hq1) (wV tw_ml_X8_25 tw_im_X8_least tw_se_X8_X8_least tw_in_X8 tw_co_X8_least) yd_X8_least rfl fi_X8 (CB_T ht2) rfl rfl (by decide) rfl (Nat.le_of_ble_eq_true rfl) rfl rfl ?_
  refine G_iconst (pc' := 6) (v := (-1 : Int32)) C dX8_isTold_5 (by decide) rfl ?_
  refine G_icmp_ne (tgt := 13) (pc' := 9) C dX8_isTold_6 (by decide) rfl (fun hc => ?_) (fun hc => ?_)
  · replace h := z_in hc h
    refine G_iconst (pc' := 14) (v := (0 : Int32)) C dX8_isTold_13 (by decide) rfl ?_
    obtain rfl := Option.some.inj h
    exact G_zret (v := (0 : Int32)) C rfl dX8_isTold_14 (fun _ h => h)
  · replace h := z_ip hc h
    refine G_iconst (pc' := 10) (v := (1 : Int32)) C dX8_isTold_9 (by decide) rfl ?_
    refine G_goto (tgt := 14) C dX8_isTold_10 (by decide) ?_
    obtain rfl := Option.some.inj h
    exact G_zret (v := (1 : Int32)) C rfl dX8_isTold_14 (fun _ h => h)
theorem dX9_findingOfInner_0 : decode cX9_findingOfInner 0 = .ok (.aload_n 0, 1) := by decide +kernel
theorem dX9_findingOfInner_1 : decode cX9_findingOfInner 1 = .ok (.getfield 86, 3) := by decide +kernel
theorem dX9_findingOfInner_4 : decode cX9_findingOfInner 4 = .ok (.aload_n 1, 1) := by decide +kernel
theorem dX9_findingOfInner_5 : decode cX9_findingOfInner 5 = .ok (.getfield 152, 3) := by decide +kernel
theorem dX9_findingOfInner_8 : decode cX9_findingOfInner 8 = .ok (.if_icmp .eq 6, 3) := by decide +kernel
theorem dX9_findingOfInner_11 : decode cX9_findingOfInner 11 = .ok (.bipush (-2), 2) := by decide +kernel
theorem dX9_findingOfInner_13 : decode cX9_findingOfInner 13 = .ok (.ireturn, 1) := by decide +kernel
theorem dX9_findingOfInner_14 : decode cX9_findingOfInner 14 = .ok (.iconst 0, 1) := by decide +kernel
theorem dX9_findingOfInner_15 : decode cX9_findingOfInner 15 = .ok (.istore_n 2, 1) := by decide +kernel
theorem dX9_findingOfInner_16 : decode cX9_findingOfInner 16 = .ok (.iload_n 2, 1) := by decide +kernel
theorem dX9_findingOfInner_17 : decode cX9_findingOfInner 17 = .ok (.aload_n 0, 1) := by decide +kernel
theorem dX9_findingOfInner_18 : decode cX9_findingOfInner 18 = .ok (.getfield 86, 3) := by decide +kernel
theorem dX9_findingOfInner_21 : decode cX9_findingOfInner 21 = .ok (.if_icmp .ge 24, 3) := by decide +kernel
theorem dX9_findingOfInner_24 : decode cX9_findingOfInner 24 = .ok (.aload_n 0, 1) := by decide +kernel
theorem dX9_findingOfInner_25 : decode cX9_findingOfInner 25 = .ok (.getfield 24, 3) := by decide +kernel
theorem dX9_findingOfInner_28 : decode cX9_findingOfInner 28 = .ok (.iload_n 2, 1) := by decide +kernel
theorem dX9_findingOfInner_29 : decode cX9_findingOfInner 29 = .ok (.iaload, 1) := by decide +kernel
theorem dX9_findingOfInner_30 : decode cX9_findingOfInner 30 = .ok (.invokestatic 131, 3) := by decide +kernel
theorem dX9_findingOfInner_33 : decode cX9_findingOfInner 33 = .ok (.ifCond .ne 6, 3) := by decide +kernel
theorem dX9_findingOfInner_36 : decode cX9_findingOfInner 36 = .ok (.bipush (-2), 2) := by decide +kernel
theorem dX9_findingOfInner_38 : decode cX9_findingOfInner 38 = .ok (.ireturn, 1) := by decide +kernel
theorem dX9_findingOfInner_39 : decode cX9_findingOfInner 39 = .ok (.iinc 2 1, 3) := by decide +kernel
theorem dX9_findingOfInner_42 : decode cX9_findingOfInner 42 = .ok (.goto (-26), 3) := by decide +kernel
theorem dX9_findingOfInner_45 : decode cX9_findingOfInner 45 = .ok (.iconst 0, 1) := by decide +kernel
theorem dX9_findingOfInner_46 : decode cX9_findingOfInner 46 = .ok (.istore_n 2, 1) := by decide +kernel
theorem dX9_findingOfInner_47 : decode cX9_findingOfInner 47 = .ok (.aload_n 1, 1) := by decide +kernel
theorem dX9_findingOfInner_48 : decode cX9_findingOfInner 48 = .ok (.invokevirtual 195, 3) := by decide +kernel
theorem dX9_findingOfInner_51 : decode cX9_findingOfInner 51 = .ok (.istore_n 3, 1) := by decide +kernel
theorem dX9_findingOfInner_52 : decode cX9_findingOfInner 52 = .ok (.iconst 0, 1) := by decide +kernel
theorem dX9_findingOfInner_53 : decode cX9_findingOfInner 53 = .ok (.istore 4, 2) := by decide +kernel
theorem dX9_findingOfInner_55 : decode cX9_findingOfInner 55 = .ok (.iload 4, 2) := by decide +kernel
theorem dX9_findingOfInner_57 : decode cX9_findingOfInner 57 = .ok (.aload_n 0, 1) := by decide +kernel
theorem dX9_findingOfInner_58 : decode cX9_findingOfInner 58 = .ok (.getfield 86, 3) := by decide +kernel
theorem dX9_findingOfInner_61 : decode cX9_findingOfInner 61 = .ok (.if_icmp .ge 61, 3) := by decide +kernel
theorem dX9_findingOfInner_64 : decode cX9_findingOfInner 64 = .ok (.aload_n 0, 1) := by decide +kernel
theorem dX9_findingOfInner_65 : decode cX9_findingOfInner 65 = .ok (.getfield 17, 3) := by decide +kernel
theorem dX9_findingOfInner_68 : decode cX9_findingOfInner 68 = .ok (.aload_n 0, 1) := by decide +kernel
theorem dX9_findingOfInner_69 : decode cX9_findingOfInner 69 = .ok (.getfield 24, 3) := by decide +kernel
theorem dX9_findingOfInner_72 : decode cX9_findingOfInner 72 = .ok (.iload 4, 2) := by decide +kernel
theorem dX9_findingOfInner_74 : decode cX9_findingOfInner 74 = .ok (.iaload, 1) := by decide +kernel
theorem dX9_findingOfInner_75 : decode cX9_findingOfInner 75 = .ok (.aaload, 1) := by decide +kernel
theorem dX9_findingOfInner_76 : decode cX9_findingOfInner 76 = .ok (.astore 5, 2) := by decide +kernel
theorem dX9_findingOfInner_78 : decode cX9_findingOfInner 78 = .ok (.aload 5, 2) := by decide +kernel
theorem dX9_findingOfInner_80 : decode cX9_findingOfInner 80 = .ok (.ifnonnull 10, 3) := by decide +kernel
theorem dX9_findingOfInner_83 : decode cX9_findingOfInner 83 = .ok (.aload_n 0, 1) := by decide +kernel
theorem dX9_findingOfInner_84 : decode cX9_findingOfInner 84 = .ok (.bipush (-10), 2) := by decide +kernel
theorem dX9_findingOfInner_86 : decode cX9_findingOfInner 86 = .ok (.invokevirtual 103, 3) := by decide +kernel
theorem dX9_findingOfInner_89 : decode cX9_findingOfInner 89 = .ok (.ireturn, 1) := by decide +kernel
theorem dX9_findingOfInner_90 : decode cX9_findingOfInner 90 = .ok (.iload_n 3, 1) := by decide +kernel
theorem dX9_findingOfInner_91 : decode cX9_findingOfInner 91 = .ok (.ifCond .eq 15, 3) := by decide +kernel
theorem dX9_findingOfInner_94 : decode cX9_findingOfInner 94 = .ok (.aload 5, 2) := by decide +kernel
theorem dX9_findingOfInner_96 : decode cX9_findingOfInner 96 = .ok (.invokevirtual 195, 3) := by decide +kernel
theorem dX9_findingOfInner_99 : decode cX9_findingOfInner 99 = .ok (.ifCond .eq 7, 3) := by decide +kernel
theorem dX9_findingOfInner_102 : decode cX9_findingOfInner 102 = .ok (.iconst 1, 1) := by decide +kernel
theorem dX9_findingOfInner_103 : decode cX9_findingOfInner 103 = .ok (.goto 4, 3) := by decide +kernel
theorem dX9_findingOfInner_106 : decode cX9_findingOfInner 106 = .ok (.iconst 0, 1) := by decide +kernel
theorem dX9_findingOfInner_107 : decode cX9_findingOfInner 107 = .ok (.istore_n 3, 1) := by decide +kernel
theorem dX9_findingOfInner_108 : decode cX9_findingOfInner 108 = .ok (.iload_n 2, 1) := by decide +kernel
theorem dX9_findingOfInner_109 : decode cX9_findingOfInner 109 = .ok (.aload 5, 2) := by decide +kernel
theorem dX9_findingOfInner_111 : decode cX9_findingOfInner 111 = .ok (.getfield 152, 3) := by decide +kernel
theorem dX9_findingOfInner_114 : decode cX9_findingOfInner 114 = .ok (.iadd, 1) := by decide +kernel
theorem dX9_findingOfInner_115 : decode cX9_findingOfInner 115 = .ok (.istore_n 2, 1) := by decide +kernel
theorem dX9_findingOfInner_116 : decode cX9_findingOfInner 116 = .ok (.iinc 4 1, 3) := by decide +kernel
theorem dX9_findingOfInner_119 : decode cX9_findingOfInner 119 = .ok (.goto (-64), 3) := by decide +kernel
theorem dX9_findingOfInner_122 : decode cX9_findingOfInner 122 = .ok (.iload_n 3, 1) := by decide +kernel
theorem dX9_findingOfInner_123 : decode cX9_findingOfInner 123 = .ok (.ifCond .ne 6, 3) := by decide +kernel
theorem dX9_findingOfInner_126 : decode cX9_findingOfInner 126 = .ok (.bipush (-4), 2) := by decide +kernel
theorem dX9_findingOfInner_128 : decode cX9_findingOfInner 128 = .ok (.ireturn, 1) := by decide +kernel
theorem dX9_findingOfInner_129 : decode cX9_findingOfInner 129 = .ok (.iload_n 2, 1) := by decide +kernel
theorem dX9_findingOfInner_130 : decode cX9_findingOfInner 130 = .ok (.bipush 8, 2) := by decide +kernel
theorem dX9_findingOfInner_132 : decode cX9_findingOfInner 132 = .ok (.if_icmp .le 8, 3) := by decide +kernel
theorem dX9_findingOfInner_135 : decode cX9_findingOfInner 135 = .ok (.bipush (-5), 2) := by decide +kernel
theorem dX9_findingOfInner_137 : decode cX9_findingOfInner 137 = .ok (.goto 4, 3) := by decide +kernel
theorem dX9_findingOfInner_140 : decode cX9_findingOfInner 140 = .ok (.iconst 0, 1) := by decide +kernel
theorem dX9_findingOfInner_141 : decode cX9_findingOfInner 141 = .ok (.ireturn, 1) := by decide +kernel
theorem yd_X9_findingOfInner : yX9_findingOfInner.cls = RX9 ∧ yX9_findingOfInner.cls ≠ "java/lang/invoke/MethodHandle" ∧ yX9_findingOfInner.cls ≠ "java/lang/invoke/VarHandle" ∧ (parseMethodDescriptor yX9_findingOfInner.desc).map (fun d => d.parameters.length) = some 1 := by decide +kernel
abbrev rmX9_findingOfInner : Room := { frames := 2, cells := 0, slots := 0, locals := 42 }
def fX9_findingOfInner_L16 (o : Nat) (z : CS) (l1 : Nat) (l2 : Int32) : Option (Int32 ⊕ (Unit ⊕ (Int32 × CS))) :=
  if (z.1 1) ≤ l2 then
    some (.inr (.inl ()))
  else
    (aI 100 (z.2.1 0) l2).bind fun v2 =>
    (fX9_isPlace v2).bind fun q3 =>
    if q3 = 0 then
      some (.inr (.inr ((-2 : Int32), z)))
    else
      some (.inl (l2 + (1 : Int32)))
def fX9_findingOfInner_L55_J107 (o : Nat) (z : CS) (l2 : Int32) (l4 : Int32) (l5 : Nat) (s0 : Int32) : Option ((Int32 × Int32 × Int32 × CS) ⊕ ((Int32 × Int32 × CS) ⊕ (Int32 × CS))) :=
  (dT z l5).bind fun t12 =>
  some (.inl ((l2 + t12.2.1), s0, (l4 + (1 : Int32)), z))
def fX9_findingOfInner_L55_J106 (o : Nat) (z : CS) (l2 : Int32) (l4 : Int32) (l5 : Nat) : Option ((Int32 × Int32 × Int32 × CS) ⊕ ((Int32 × Int32 × CS) ⊕ (Int32 × CS))) :=
  fX9_findingOfInner_L55_J107 o z l2 l4 l5 (0 : Int32)
def fX9_findingOfInner_L55 (o : Nat) (z : CS) (l2 : Int32) (l3 : Int32) (l4 : Int32) : Option ((Int32 × Int32 × Int32 × CS) ⊕ ((Int32 × Int32 × CS) ⊕ (Int32 × CS))) :=
  if (z.1 1) ≤ l4 then
    some (.inr (.inl (l2, l3, z)))
  else
    (aI 100 (z.2.1 0) l4).bind fun v8 =>
    (aQ 8 (z.2.2.1 1) v8).bind fun v9 =>
    qc v9
      (
        (fX9_counted o z (-10 : Int32)).bind fun q11 =>
        some (.inr (.inr (q11.1, q11.2)))
      )
      (fun ad10 =>
        if l3 = 0 then
          fX9_findingOfInner_L55_J106 o z l2 l4 ad10
        else
          (dT z ad10).bind fun t14 =>
          (fX8_isTold o z ad10).bind fun q13 =>
          if q13 = 0 then
            fX9_findingOfInner_L55_J106 o z l2 l4 ad10
          else
            fX9_findingOfInner_L55_J107 o z l2 l4 ad10 (1 : Int32)
      )
def fX9_findingOfInner (o : Nat) (z : CS) (a1 : Nat) : Option (Int32 × CS) :=
  (dT z a1).bind fun t1 =>
  if (z.1 1) = t1.2.1 then
    (lpN (fun u => fX9_findingOfInner_L16 o z a1 u) bigN (0 : Int32)).bind fun e4 =>
    sel e4 (fun x5 =>
      (dT z a1).bind fun t7 =>
      (fX8_isTold o z a1).bind fun q6 =>
      (lpN (fun u => fX9_findingOfInner_L55 o u.2.2.2 u.1 u.2.1 u.2.2.1) bigN ((0 : Int32), q6, (0 : Int32), z)).bind fun e15 =>
      sel e15 (fun x16 =>
        if x16.2.1 = 0 then
          some ((-4 : Int32), x16.2.2)
        else
          if x16.1 ≤ (8 : Int32) then
            some ((0 : Int32), x16.2.2)
          else
            some ((-5 : Int32), x16.2.2)
        ) (fun rt => some rt)
      ) (fun rt => some rt)
  else
    some ((-2 : Int32), z)
set_option maxHeartbeats 4000000 in
set_option maxRecDepth 100000 in
theorem tX9_findingOfInner_L16 {κ : KK} {p : Program} {l : Launch} {e : Env} {s : State} {m : MethodId} {args : Array Value} {below : List Frame} {meth : Method} {c : Code} (C : Cx κ p s m args meth c cX9_findingOfInner 6 RX9 (some .int)) {o : Nat} {v : Option Value} {B' : Heap → Prop} {z : CS} {l1 : Nat} {l2 : Int32} {y : Int32 ⊕ (Unit ⊕ (Int32 × CS))} (h : fX9_findingOfInner_L16 o z l1 l2 = some y) (kc : ∀ u, y = .inl u → GC κ p l e s m args below meth c rmX9_findingOfInner 6 o v B' 0 0 z 16 [(0, .ref o), (1, .ref l1), (2, .int u)] []) (kx : ∀ w, y = .inr w → (∀ x, w = .inl x → GC κ p l e s m args below meth c rmX9_findingOfInner 6 o v B' 0 0 z 45 [(0, .ref o), (1, .ref l1)] []) ∧ (∀ rt, w = .inr rt → v = (some (Value.int rt.1)) ∧ B' = (CB κ o rt.2))) : GC κ p l e s m args below meth c rmX9_findingOfInner 6 o v B' 0 0 z 16 [(0, .ref o), (1, .ref l1), (2, .int l2)] [] := by
  unfold fX9_findingOfInner_L16 at h
  refine G_iload_n (pc' := 17) C dX9_findingOfInner_16 2 rfl rfl ?_
  refine G_aload_n (pc' := 18) C dX9_findingOfInner_17 0 rfl rfl ?_
  refine G_get (pc' := 21) (k := 13) C fi_X9 dX9_findingOfInner_18 tw_fl_X9_86 rfl (by decide) (CB_rd 0 rfl) rfl rfl ?_
  refine G_icmp_ge (tgt := 45) (pc' := 24) C dX9_findingOfInner_21 (by decide) rfl (fun hc => ?_) (fun hc => ?_)
  · replace h := z_ip hc h
    exact G_sub (lv' := [(0, .ref o), (1, .ref l1)]) [0, 1] rfl ((kx _ (Option.some.inj h).symm).1 _ rfl)
  · replace h := z_in hc h
    refine G_aload_n (pc' := 25) C dX9_findingOfInner_24 0 rfl rfl ?_
    refine G_get (pc' := 28) (k := 3) C fi_X9 dX9_findingOfInner_25 tw_fl_X9_24 rfl (by decide) (CB_rd 0 rfl) rfl rfl ?_
    refine G_iload_n (pc' := 29) C dX9_findingOfInner_28 2 rfl rfl ?_
    replace h := ob h
    obtain ⟨v2, hv2, h⟩ := h
    refine G_ialdV (pc' := 30) C dX9_findingOfInner_29 (CB_rd 4 rfl) hv2 rfl ?_
    replace h := ob h
    obtain ⟨q3, hq3, h⟩ := h
    refine G_cS0 (pc' := 33) C dX9_findingOfInner_30 (tX9_isPlace κ l (CA o) (CB κ o z) v2 q3 hq3) (wS tw_ml_X9_131 tw_st_X9_isPlace tw_co_X9_isPlace tw_in_X9) yd_X9_isPlace rfl rfl rfl (by decide) rfl (Nat.le_of_ble_eq_true rfl) rfl rfl ?_
    refine G_if_ne (tgt := 39) (pc' := 36) C dX9_findingOfInner_33 (by decide) rfl (fun hc => ?_) (fun hc => ?_)
    · replace h := z_in hc h
      refine G_iinc (pc' := 42) C dX9_findingOfInner_39 2 rfl rfl [(2, .int (l2 + (1 : Int32))), (0, .ref o), (1, .ref l1)] (by decide) rfl rfl ?_
      refine G_goto (tgt := 16) C dX9_findingOfInner_42 (by decide) ?_
      exact G_sub (lv' := [(0, .ref o), (1, .ref l1), (2, .int (l2 + (1 : Int32)))]) [1, 2, 0] rfl (kc (l2 + (1 : Int32)) (Option.some.inj h).symm)
    · replace h := z_ip hc h
      refine G_bipush (pc' := 38) (v := (-2 : Int32)) C dX9_findingOfInner_36 (by decide) rfl ?_
      refine G_widen (k := rmX9_findingOfInner.cells) (n := rmX9_findingOfInner.slots) (by decide) (by decide) ?_
      obtain ⟨hv, hB⟩ := (kx _ (Option.some.inj h).symm).2 _ rfl
      subst hv
      subst hB
      exact G_iret C dX9_findingOfInner_38 (fun _ h => h)
set_option maxHeartbeats 4000000 in
set_option maxRecDepth 100000 in
theorem tX9_findingOfInner_L55 {κ : KK} {p : Program} {l : Launch} {e : Env} {s : State} {m : MethodId} {args : Array Value} {below : List Frame} {meth : Method} {c : Code} (C : Cx κ p s m args meth c cX9_findingOfInner 6 RX9 (some .int)) {o : Nat} {v : Option Value} {B' : Heap → Prop} {z : CS} {l2 : Int32} {l3 : Int32} {l4 : Int32} {y : (Int32 × Int32 × Int32 × CS) ⊕ ((Int32 × Int32 × CS) ⊕ (Int32 × CS))} (h : fX9_findingOfInner_L55 o z l2 l3 l4 = some y) (kc : ∀ u, y = .inl u → GC κ p l e s m args below meth c rmX9_findingOfInner 6 o v B' 0 0 u.2.2.2 55 [(0, .ref o), (2, .int u.1), (3, .int u.2.1), (4, .int u.2.2.1)] []) (kx : ∀ w, y = .inr w → (∀ x, w = .inl x → GC κ p l e s m args below meth c rmX9_findingOfInner 6 o v B' 0 0 x.2.2 122 [(2, .int x.1), (3, .int x.2.1)] []) ∧ (∀ rt, w = .inr rt → v = (some (Value.int rt.1)) ∧ B' = (CB κ o rt.2))) : GC κ p l e s m args below meth c rmX9_findingOfInner 6 o v B' 0 0 z 55 [(0, .ref o), (2, .int l2), (3, .int l3), (4, .int l4)] [] := by
  have J107 : ∀ (z : CS) (l2 : Int32) (l4 : Int32) (l5 : Nat) (s0 : Int32), fX9_findingOfInner_L55_J107 o z l2 l4 l5 s0 = some y → GC κ p l e s m args below meth c rmX9_findingOfInner 6 o v B' 0 0 z 107 [(0, .ref o), (2, .int l2), (4, .int l4), (5, .ref l5)] [.int s0] := by
    intro z l2 l4 l5 s0 h
    unfold fX9_findingOfInner_L55_J107 at h
    refine G_istore_n (pc' := 108) C dX9_findingOfInner_107 [(3, .int s0), (0, .ref o), (2, .int l2), (4, .int l4), (5, .ref l5)] (by decide) rfl rfl ?_
    refine G_iload_n (pc' := 109) C dX9_findingOfInner_108 2 rfl rfl ?_
    refine G_aload (pc' := 111) C dX9_findingOfInner_109 4 rfl rfl ?_
    replace h := ob h
    obtain ⟨t12, ht12, h⟩ := h
    refine G_get (pc' := 114) (k := 1) C fi_X8 dX9_findingOfInner_111 tw_fl_X9_152 rfl (by decide) (CB_T ht12) rfl rfl ?_
    refine G_iadd (pc' := 115) C dX9_findingOfInner_114 rfl ?_
    refine G_istore_n (pc' := 116) C dX9_findingOfInner_115 [(2, .int (l2 + t12.2.1)), (3, .int s0), (0, .ref o), (4, .int l4), (5, .ref l5)] (by decide) rfl rfl ?_
    refine G_iinc (pc' := 119) C dX9_findingOfInner_116 3 rfl rfl [(4, .int (l4 + (1 : Int32))), (2, .int (l2 + t12.2.1)), (3, .int s0), (0, .ref o), (5, .ref l5)] (by decide) rfl rfl ?_
    refine G_goto (tgt := 55) C dX9_findingOfInner_119 (by decide) ?_
    exact G_sub (lv' := [(0, .ref o), (2, .int (l2 + t12.2.1)), (3, .int s0), (4, .int (l4 + (1 : Int32)))]) [3, 1, 2, 0] rfl (kc ((l2 + t12.2.1), s0, (l4 + (1 : Int32)), z) (Option.some.inj h).symm)
  have J106 : ∀ (z : CS) (l2 : Int32) (l4 : Int32) (l5 : Nat), fX9_findingOfInner_L55_J106 o z l2 l4 l5 = some y → GC κ p l e s m args below meth c rmX9_findingOfInner 6 o v B' 0 0 z 106 [(0, .ref o), (2, .int l2), (4, .int l4), (5, .ref l5)] [] := by
    intro z l2 l4 l5 h
    unfold fX9_findingOfInner_L55_J106 at h
    refine G_iconst (pc' := 107) (v := (0 : Int32)) C dX9_findingOfInner_106 (by decide) rfl ?_
    exact G_sub (lv' := [(0, .ref o), (2, .int l2), (4, .int l4), (5, .ref l5)]) [0, 1, 2, 3] rfl (J107 z l2 l4 l5 (0 : Int32) h)
  unfold fX9_findingOfInner_L55 at h
  refine G_iload (pc' := 57) C dX9_findingOfInner_55 3 rfl rfl ?_
  refine G_aload_n (pc' := 58) C dX9_findingOfInner_57 0 rfl rfl ?_
  refine G_get (pc' := 61) (k := 13) C fi_X9 dX9_findingOfInner_58 tw_fl_X9_86 rfl (by decide) (CB_rd 0 rfl) rfl rfl ?_
  refine G_icmp_ge (tgt := 122) (pc' := 64) C dX9_findingOfInner_61 (by decide) rfl (fun hc => ?_) (fun hc => ?_)
  · replace h := z_ip hc h
    exact G_sub (lv' := [(2, .int l2), (3, .int l3)]) [1, 2] rfl ((kx _ (Option.some.inj h).symm).1 _ rfl)
  · replace h := z_in hc h
    refine G_aload_n (pc' := 65) C dX9_findingOfInner_64 0 rfl rfl ?_
    refine G_get (pc' := 68) (k := 1) C fi_X9 dX9_findingOfInner_65 tw_fl_X9_17 rfl (by decide) (CB_rd 0 rfl) rfl rfl ?_
    refine G_aload_n (pc' := 69) C dX9_findingOfInner_68 0 rfl rfl ?_
    refine G_get (pc' := 72) (k := 3) C fi_X9 dX9_findingOfInner_69 tw_fl_X9_24 rfl (by decide) (CB_rd 0 rfl) rfl rfl ?_
    refine G_iload (pc' := 74) C dX9_findingOfInner_72 3 rfl rfl ?_
    replace h := ob h
    obtain ⟨v8, hv8, h⟩ := h
    refine G_ialdV (pc' := 75) C dX9_findingOfInner_74 (CB_rd 4 rfl) hv8 rfl ?_
    replace h := ob h
    obtain ⟨v9, hv9, h⟩ := h
    refine G_aald5V (pc' := 76) C dX9_findingOfInner_75 (CB_rd 2 rfl) hv9 rfl ?_
    refine G_qstore (pc' := 78) C dX9_findingOfInner_76 [(5, va_rf v9), (0, .ref o), (2, .int l2), (3, .int l3), (4, .int l4)] (by decide) rfl rfl ?_
    refine G_qload (pc' := 80) C dX9_findingOfInner_78 0 rfl rfl ?_
    refine G_ifnonnull (tgt := 90) (pc' := 83) C dX9_findingOfInner_80 (by decide) rfl (fun ad10 hc => ?_) (fun hc => ?_)
    · replace h := z_qs hc h
      subst hc
      refine G_iload_n (pc' := 91) C dX9_findingOfInner_90 3 rfl rfl ?_
      refine G_if_eq (tgt := 106) (pc' := 94) C dX9_findingOfInner_91 (by decide) rfl (fun hc => ?_) (fun hc => ?_)
      · replace h := z_ip hc h
        exact G_sub (lv' := [(0, .ref o), (2, .int l2), (4, .int l4), (5, .ref ad10)]) [1, 2, 4, 0] rfl (J106 z l2 l4 ad10 h)
      · replace h := z_in hc h
        refine G_aload (pc' := 96) C dX9_findingOfInner_94 0 rfl rfl ?_
        replace h := ob h
        obtain ⟨t14, ht14, h⟩ := h
        replace h := ob h
        obtain ⟨q13, hq13, h⟩ := h
        refine G_cV0 (pc' := 99) C dX9_findingOfInner_96 (tX8_isTold κ l o z ad10 q13 hq13) (wV tw_ml_X9_195 tw_im_X8_isTold tw_se_X8_X8_isTold tw_in_X8 tw_co_X8_isTold) yd_X8_isTold rfl fi_X8 (CB_T ht14) rfl rfl (by decide) rfl (Nat.le_of_ble_eq_true rfl) rfl rfl ?_
        refine G_if_eq (tgt := 106) (pc' := 102) C dX9_findingOfInner_99 (by decide) rfl (fun hc => ?_) (fun hc => ?_)
        · replace h := z_ip hc h
          exact G_sub (lv' := [(0, .ref o), (2, .int l2), (4, .int l4), (5, .ref ad10)]) [1, 2, 4, 0] rfl (J106 z l2 l4 ad10 h)
        · replace h := z_in hc h
          refine G_iconst (pc' := 103) (v := (1 : Int32)) C dX9_findingOfInner_102 (by decide) rfl ?_
          refine G_goto (tgt := 107) C dX9_findingOfInner_103 (by decide) ?_
          exact G_sub (lv' := [(0, .ref o), (2, .int l2), (4, .int l4), (5, .ref ad10)]) [1, 2, 4, 0] rfl (J107 z l2 l4 ad10 (1 : Int32) h)
    · replace h := z_qn hc h
      refine G_aload_n (pc' := 84) C dX9_findingOfInner_83 1 rfl rfl ?_
      refine G_bipush (pc' := 86) (v := (-10 : Int32)) C dX9_findingOfInner_84 (by decide) rfl ?_
      replace h := ob h
      obtain ⟨q11, hq11, h⟩ := h
      refine G_cV0 (pc' := 89) C dX9_findingOfInner_86 (tX9_counted κ l o z (-10 : Int32) q11 hq11) (wV tw_ml_X9_103 tw_im_X9_counted tw_se_X9_X9_counted tw_in_X9 tw_co_X9_counted) yd_X9_counted rfl fi_X9 (CB_rd 0 rfl) rfl rfl (by decide) rfl (Nat.le_of_ble_eq_true rfl) rfl rfl ?_
      refine G_widen (k := rmX9_findingOfInner.cells) (n := rmX9_findingOfInner.slots) (by decide) (by decide) ?_
      obtain ⟨hv, hB⟩ := (kx _ (Option.some.inj h).symm).2 _ rfl
      subst hv
      subst hB
      exact G_iret C dX9_findingOfInner_89 (fun _ h => h)
set_option maxHeartbeats 4000000 in
set_option maxRecDepth 100000 in
theorem tX9_findingOfInner (κ : KK) (l : Launch) (o : Nat) (z : CS) (a1 : Nat) (q : Int32 × CS) (h : fX9_findingOfInner o z a1 = some q) : MM κ l yX9_findingOfInner cX9_findingOfInner 6 (some .int) rmX9_findingOfInner (CA o) [.ref o, .ref a1] (CB κ o z) (some (Value.int q.1)) (CB κ o q.2) := by
  refine MM.of (by decide +kernel) (Nat.le_of_ble_eq_true rfl) ?_
  intro p e s m below meth c C hnm
  unfold fX9_findingOfInner at h
  refine G_sub (lv' := [(0, .ref o), (1, .ref a1)]) [0, 1] rfl ?_
  refine G_aload_n (pc' := 1) C dX9_findingOfInner_0 0 rfl rfl ?_
  refine G_get (pc' := 4) (k := 13) C fi_X9 dX9_findingOfInner_1 tw_fl_X9_86 rfl (by decide) (CB_rd 0 rfl) rfl rfl ?_
  refine G_aload_n (pc' := 5) C dX9_findingOfInner_4 1 rfl rfl ?_
  replace h := ob h
  obtain ⟨t1, ht1, h⟩ := h
  refine G_get (pc' := 8) (k := 1) C fi_X8 dX9_findingOfInner_5 tw_fl_X9_152 rfl (by decide) (CB_T ht1) rfl rfl ?_
  refine G_icmp_eq (tgt := 14) (pc' := 11) C dX9_findingOfInner_8 (by decide) rfl (fun hc => ?_) (fun hc => ?_)
  · replace h := z_ip hc h
    refine G_iconst (pc' := 15) (v := (0 : Int32)) C dX9_findingOfInner_14 (by decide) rfl ?_
    refine G_istore_n (pc' := 16) C dX9_findingOfInner_15 [(2, .int (0 : Int32)), (0, .ref o), (1, .ref a1)] (by decide) rfl rfl ?_
    replace h := ob h
    obtain ⟨e4, hle4, h⟩ := h
    refine G_sub (lv' := [(0, .ref o), (1, .ref a1), (2, .int (0 : Int32))]) [1, 2, 0] rfl ?_
    refine lpN_ind (body := fun u => fX9_findingOfInner_L16 o z a1 u) (P := fun u => GC κ p l e s m ([.ref o, .ref a1] : List Value).toArray below meth c rmX9_findingOfInner 6 o (some (Value.int q.1)) (CB κ o q.2) 0 0 z 16 [(0, .ref o), (1, .ref a1), (2, .int u)] []) (X := fun w => (∀ x, w = .inl x → GC κ p l e s m ([.ref o, .ref a1] : List Value).toArray below meth c rmX9_findingOfInner 6 o (some (Value.int q.1)) (CB κ o q.2) 0 0 z 45 [(0, .ref o), (1, .ref a1)] []) ∧ (∀ rt, w = .inr rt → (some (Value.int q.1)) = (some (Value.int rt.1)) ∧ (CB κ o q.2) = (CB κ o rt.2))) (fun u y hb kc kx => tX9_findingOfInner_L16 C hb kc kx) _ _ _ hle4 ?_
    refine ⟨fun x5 hxx5 => ?_, fun rt hrt => ?_⟩
    · subst hxx5
      replace h := z_sl h
      refine G_iconst (pc' := 46) (v := (0 : Int32)) C dX9_findingOfInner_45 (by decide) rfl ?_
      refine G_istore_n (pc' := 47) C dX9_findingOfInner_46 [(2, .int (0 : Int32)), (0, .ref o), (1, .ref a1)] (by decide) rfl rfl ?_
      refine G_aload_n (pc' := 48) C dX9_findingOfInner_47 2 rfl rfl ?_
      replace h := ob h
      obtain ⟨t7, ht7, h⟩ := h
      replace h := ob h
      obtain ⟨q6, hq6, h⟩ := h
      refine G_cV0 (pc' := 51) C dX9_findingOfInner_48 (tX8_isTold κ l o z a1 q6 hq6) (wV tw_ml_X9_195 tw_im_X8_isTold tw_se_X8_X8_isTold tw_in_X8 tw_co_X8_isTold) yd_X8_isTold rfl fi_X8 (CB_T ht7) rfl rfl (by decide) rfl (Nat.le_of_ble_eq_true rfl) rfl rfl ?_
      refine G_istore_n (pc' := 52) C dX9_findingOfInner_51 [(3, .int q6), (2, .int (0 : Int32)), (0, .ref o), (1, .ref a1)] (by decide) rfl rfl ?_
      refine G_iconst (pc' := 53) (v := (0 : Int32)) C dX9_findingOfInner_52 (by decide) rfl ?_
      refine G_istore (pc' := 55) C dX9_findingOfInner_53 [(4, .int (0 : Int32)), (3, .int q6), (2, .int (0 : Int32)), (0, .ref o), (1, .ref a1)] (by decide) rfl rfl ?_
      replace h := ob h
      obtain ⟨e15, hle15, h⟩ := h
      refine G_sub (lv' := [(0, .ref o), (2, .int (0 : Int32)), (3, .int q6), (4, .int (0 : Int32))]) [3, 2, 1, 0] rfl ?_
      refine lpN_ind (body := fun u => fX9_findingOfInner_L55 o u.2.2.2 u.1 u.2.1 u.2.2.1) (P := fun u => GC κ p l e s m ([.ref o, .ref a1] : List Value).toArray below meth c rmX9_findingOfInner 6 o (some (Value.int q.1)) (CB κ o q.2) 0 0 u.2.2.2 55 [(0, .ref o), (2, .int u.1), (3, .int u.2.1), (4, .int u.2.2.1)] []) (X := fun w => (∀ x, w = .inl x → GC κ p l e s m ([.ref o, .ref a1] : List Value).toArray below meth c rmX9_findingOfInner 6 o (some (Value.int q.1)) (CB κ o q.2) 0 0 x.2.2 122 [(2, .int x.1), (3, .int x.2.1)] []) ∧ (∀ rt, w = .inr rt → (some (Value.int q.1)) = (some (Value.int rt.1)) ∧ (CB κ o q.2) = (CB κ o rt.2))) (fun u y hb kc kx => tX9_findingOfInner_L55 C hb kc kx) _ _ _ hle15 ?_
      refine ⟨fun x16 hxx16 => ?_, fun rt hrt => ?_⟩
      · subst hxx16
        replace h := z_sl h
        refine G_iload_n (pc' := 123) C dX9_findingOfInner_122 1 rfl rfl ?_
        refine G_if_ne (tgt := 129) (pc' := 126) C dX9_findingOfInner_123 (by decide) rfl (fun hc => ?_) (fun hc => ?_)
        · replace h := z_in hc h
          refine G_iload_n (pc' := 130) C dX9_findingOfInner_129 0 rfl rfl ?_
          refine G_bipush (pc' := 132) (v := (8 : Int32)) C dX9_findingOfInner_130 (by decide) rfl ?_
          refine G_icmp_le (tgt := 140) (pc' := 135) C dX9_findingOfInner_132 (by decide) rfl (fun hc => ?_) (fun hc => ?_)
          · replace h := z_ip hc h
            refine G_iconst (pc' := 141) (v := (0 : Int32)) C dX9_findingOfInner_140 (by decide) rfl ?_
            refine G_widen (k := rmX9_findingOfInner.cells) (n := rmX9_findingOfInner.slots) (by decide) (by decide) ?_
            obtain rfl := Option.some.inj h
            exact G_iret C dX9_findingOfInner_141 (fun _ h => h)
          · replace h := z_in hc h
            refine G_bipush (pc' := 137) (v := (-5 : Int32)) C dX9_findingOfInner_135 (by decide) rfl ?_
            refine G_goto (tgt := 141) C dX9_findingOfInner_137 (by decide) ?_
            refine G_widen (k := rmX9_findingOfInner.cells) (n := rmX9_findingOfInner.slots) (by decide) (by decide) ?_
            obtain rfl := Option.some.inj h
            exact G_iret C dX9_findingOfInner_141 (fun _ h => h)
        · replace h := z_ip hc h
          refine G_bipush (pc' := 128) (v := (-4 : Int32)) C dX9_findingOfInner_126 (by decide) rfl ?_
          refine G_widen (k := rmX9_findingOfInner.cells) (n := rmX9_findingOfInner.slots) (by decide) (by decide) ?_
          obtain rfl := Option.some.inj h
          exact G_iret C dX9_findingOfInner_128 (fun _ h => h)
      · subst hrt
        replace h := z_sr h
        obtain rfl := Option.some.inj h
        exact ⟨rfl, rfl⟩
    · subst hrt
      replace h := z_sr h
      obtain rfl := Option.some.inj h
      exact ⟨rfl, rfl⟩
  · replace h := z_in hc h
    refine G_bipush (pc' := 13) (v := (-2 : Int32)) C dX9_findingOfInner_11 (by decide) rfl ?_
    refine G_widen (k := rmX9_findingOfInner.cells) (n := rmX9_findingOfInner.slots) (by decide) (by decide) ?_
    obtain rfl := Option.some.inj h
    exact G_iret C dX9_findingOfInner_13 (fun _ h => h)
theorem dX9_put_0 : decode cX9_put 0 = .ok (.iload_n 1, 1) := by decide +kernel
theorem dX9_put_1 : decode cX9_put 1 = .ok (.invokestatic 131, 3) := by decide +kernel
theorem dX9_put_4 : decode cX9_put 4 = .ok (.ifCond .ne 8, 3) := by decide +kernel
theorem dX9_put_7 : decode cX9_put 7 = .ok (.bipush (-2), 2) := by decide +kernel
theorem dX9_put_9 : decode cX9_put 9 = .ok (.goto 8, 3) := by decide +kernel
theorem dX9_put_12 : decode cX9_put 12 = .ok (.aload_n 0, 1) := by decide +kernel
theorem dX9_put_13 : decode cX9_put 13 = .ok (.iload_n 2, 1) := by decide +kernel
theorem dX9_put_14 : decode cX9_put 14 = .ok (.invokevirtual 145, 3) := by decide +kernel
theorem dX9_put_17 : decode cX9_put 17 = .ok (.istore_n 3, 1) := by decide +kernel
theorem dX9_put_18 : decode cX9_put 18 = .ok (.iload_n 3, 1) := by decide +kernel
theorem dX9_put_19 : decode cX9_put 19 = .ok (.ifCond .ne 14, 3) := by decide +kernel
theorem dX9_put_22 : decode cX9_put 22 = .ok (.aload_n 0, 1) := by decide +kernel
theorem dX9_put_23 : decode cX9_put 23 = .ok (.aload_n 0, 1) := by decide +kernel
theorem dX9_put_24 : decode cX9_put 24 = .ok (.getfield 17, 3) := by decide +kernel
theorem dX9_put_27 : decode cX9_put 27 = .ok (.iload_n 2, 1) := by decide +kernel
theorem dX9_put_28 : decode cX9_put 28 = .ok (.aaload, 1) := by decide +kernel
theorem dX9_put_29 : decode cX9_put 29 = .ok (.invokevirtual 187, 3) := by decide +kernel
theorem dX9_put_32 : decode cX9_put 32 = .ok (.istore_n 3, 1) := by decide +kernel
theorem dX9_put_33 : decode cX9_put 33 = .ok (.iload_n 3, 1) := by decide +kernel
theorem dX9_put_34 : decode cX9_put 34 = .ok (.ifCond .ne 19, 3) := by decide +kernel
theorem dX9_put_37 : decode cX9_put 37 = .ok (.aload_n 0, 1) := by decide +kernel
theorem dX9_put_38 : decode cX9_put 38 = .ok (.getfield 17, 3) := by decide +kernel
theorem dX9_put_41 : decode cX9_put 41 = .ok (.iload_n 1, 1) := by decide +kernel
theorem dX9_put_42 : decode cX9_put 42 = .ok (.aload_n 0, 1) := by decide +kernel
theorem dX9_put_43 : decode cX9_put 43 = .ok (.aload_n 0, 1) := by decide +kernel
theorem dX9_put_44 : decode cX9_put 44 = .ok (.getfield 17, 3) := by decide +kernel
theorem dX9_put_47 : decode cX9_put 47 = .ok (.iload_n 2, 1) := by decide +kernel
theorem dX9_put_48 : decode cX9_put 48 = .ok (.aaload, 1) := by decide +kernel
theorem dX9_put_49 : decode cX9_put 49 = .ok (.invokevirtual 191, 3) := by decide +kernel
theorem dX9_put_52 : decode cX9_put 52 = .ok (.aastore, 1) := by decide +kernel
theorem dX9_put_53 : decode cX9_put 53 = .ok (.aload_n 0, 1) := by decide +kernel
theorem dX9_put_54 : decode cX9_put 54 = .ok (.iconst 0, 1) := by decide +kernel
theorem dX9_put_55 : decode cX9_put 55 = .ok (.putfield 86, 3) := by decide +kernel
theorem dX9_put_58 : decode cX9_put 58 = .ok (.iload_n 3, 1) := by decide +kernel
theorem dX9_put_59 : decode cX9_put 59 = .ok (.ifCond .eq 7, 3) := by decide +kernel
theorem dX9_put_62 : decode cX9_put 62 = .ok (.iload_n 3, 1) := by decide +kernel
theorem dX9_put_63 : decode cX9_put 63 = .ok (.goto 12, 3) := by decide +kernel
theorem dX9_put_66 : decode cX9_put 66 = .ok (.aload_n 0, 1) := by decide +kernel
theorem dX9_put_67 : decode cX9_put 67 = .ok (.getfield 17, 3) := by decide +kernel
theorem dX9_put_70 : decode cX9_put 70 = .ok (.iload_n 1, 1) := by decide +kernel
theorem dX9_put_71 : decode cX9_put 71 = .ok (.aaload, 1) := by decide +kernel
theorem dX9_put_72 : decode cX9_put 72 = .ok (.getfield 152, 3) := by decide +kernel
theorem dX9_put_75 : decode cX9_put 75 = .ok (.ireturn, 1) := by decide +kernel
theorem yd_X9_put : yX9_put.cls = RX9 ∧ yX9_put.cls ≠ "java/lang/invoke/MethodHandle" ∧ yX9_put.cls ≠ "java/lang/invoke/VarHandle" ∧ (parseMethodDescriptor yX9_put.desc).map (fun d => d.parameters.length) = some 2 := by decide +kernel
abbrev rmX9_put : Room := { frames := 3, cells := 2, slots := 260, locals := 73 }
def fX9_put_J53 (o : Nat) (z : CS) (l1 : Int32) (l3 : Int32) : Option (Int32 × CS) :=
  if l3 = 0 then
    (aQ 8 ((cI z 1 (0 : Int32)).2.2.1 1) l1).bind fun v3 =>
    (v3).bind fun ad4 =>
    (dT (cI z 1 (0 : Int32)) ad4).bind fun t5 =>
    some (t5.2.1, (cI z 1 (0 : Int32)))
  else
    some (l3, (cI z 1 (0 : Int32)))
def fX9_put_J33 (o : Nat) (z : CS) (l1 : Int32) (l2 : Int32) (l3 : Int32) : Option (Int32 × CS) :=
  if l3 = 0 then
    (aQ 8 (z.2.2.1 1) l2).bind fun v6 =>
    (v6).bind fun ad7 =>
    (fX9_putTogether o z ad7).bind fun q8 =>
    (stQT q8.2 1 l1 (some q8.1)).bind fun z9 =>
    fX9_put_J53 o z9 l1 l3
  else
    fX9_put_J53 o z l1 l3
def fX9_put_J17 (o : Nat) (z : CS) (l1 : Int32) (l2 : Int32) (s0 : Int32) : Option (Int32 × CS) :=
  if s0 = 0 then
    (aQ 8 (z.2.2.1 1) l2).bind fun v10 =>
    (v10).bind fun ad11 =>
    (fX9_findingOfInner o z ad11).bind fun q12 =>
    fX9_put_J33 o q12.2 l1 l2 q12.1
  else
    fX9_put_J33 o z l1 l2 s0
def fX9_put (o : Nat) (z : CS) (a1 : Int32) (a2 : Int32) : Option (Int32 × CS) :=
  (fX9_isPlace a1).bind fun q1 =>
  if q1 = 0 then
    fX9_put_J17 o z a1 a2 (-2 : Int32)
  else
    (fX9_findingOfTask o z a2).bind fun q2 =>
    fX9_put_J17 o q2.2 a1 a2 q2.1
set_option maxHeartbeats 4000000 in
set_option maxRecDepth 100000 in
theorem tX9_put (κ : KK) (l : Launch) (o : Nat) (z : CS) (a1 : Int32) (a2 : Int32) (q : Int32 × CS) (h : fX9_put o z a1 a2 = some q) : MM κ l yX9_put cX9_put 4 (some .int) rmX9_put (CA o) [.ref o, .int a1, .int a2] (CB κ o z) (some (Value.int q.1)) (CB κ o q.2) := by
  refine MM.of (by decide +kernel) (Nat.le_of_ble_eq_true rfl) ?_
  intro p e s m below meth c C hnm
  have J53 : ∀ (z : CS) (l1 : Int32) (l3 : Int32), fX9_put_J53 o z l1 l3 = some q → GC κ p l e s m ([.ref o, .int a1, .int a2] : List Value).toArray below meth c rmX9_put 4 o (some (Value.int q.1)) (CB κ o q.2) 2 260 z 53 [(0, .ref o), (1, .int l1), (3, .int l3)] [] := by
    intro z l1 l3 h
    unfold fX9_put_J53 at h
    refine G_aload_n (pc' := 54) C dX9_put_53 0 rfl rfl ?_
    refine G_iconst (pc' := 55) (v := (0 : Int32)) C dX9_put_54 (by decide) rfl ?_
    refine G_put (pc' := 58) (k := 13) C fi_X9 dX9_put_55 tw_fl_X9_86 rfl (by decide) rfl rfl rfl (Nat.le_of_ble_eq_true rfl) (CB_rd 0 rfl) (CB_wr (cI z 1 (0 : Int32)) 0 (by decide) rfl rfl) rfl ?_
    refine G_iload_n (pc' := 59) C dX9_put_58 2 rfl rfl ?_
    refine G_if_eq (tgt := 66) (pc' := 62) C dX9_put_59 (by decide) rfl (fun hc => ?_) (fun hc => ?_)
    · replace h := z_ip hc h
      refine G_aload_n (pc' := 67) C dX9_put_66 0 rfl rfl ?_
      refine G_get (pc' := 70) (k := 1) C fi_X9 dX9_put_67 tw_fl_X9_17 rfl (by decide) (CB_rd 0 rfl) rfl rfl ?_
      refine G_iload_n (pc' := 71) C dX9_put_70 1 rfl rfl ?_
      replace h := ob h
      obtain ⟨v3, hv3, h⟩ := h
      refine G_aald5V (pc' := 72) C dX9_put_71 (CB_rd 2 rfl) hv3 rfl ?_
      replace h := ob h
      obtain ⟨ad4, had4, h⟩ := h
      subst had4
      replace h := ob h
      obtain ⟨t5, ht5, h⟩ := h
      refine G_get (pc' := 75) (k := 1) C fi_X8 dX9_put_72 tw_fl_X9_152 rfl (by decide) (CB_T ht5) rfl rfl ?_
      refine G_widen (k := rmX9_put.cells) (n := rmX9_put.slots) (by decide) (by decide) ?_
      obtain rfl := Option.some.inj h
      exact G_iret C dX9_put_75 (fun _ h => h)
    · replace h := z_in hc h
      refine G_iload_n (pc' := 63) C dX9_put_62 2 rfl rfl ?_
      refine G_goto (tgt := 75) C dX9_put_63 (by decide) ?_
      refine G_widen (k := rmX9_put.cells) (n := rmX9_put.slots) (by decide) (by decide) ?_
      obtain rfl := Option.some.inj h
      exact G_iret C dX9_put_75 (fun _ h => h)
  have J33 : ∀ (z : CS) (l1 : Int32) (l2 : Int32) (l3 : Int32), fX9_put_J33 o z l1 l2 l3 = some q → GC κ p l e s m ([.ref o, .int a1, .int a2] : List Value).toArray below meth c rmX9_put 4 o (some (Value.int q.1)) (CB κ o q.2) 0 0 z 33 [(0, .ref o), (1, .int l1), (2, .int l2), (3, .int l3)] [] := by
    intro z l1 l2 l3 h
    unfold fX9_put_J33 at h
    refine G_iload_n (pc' := 34) C dX9_put_33 3 rfl rfl ?_
    refine G_if_ne (tgt := 53) (pc' := 37) C dX9_put_34 (by decide) rfl (fun hc => ?_) (fun hc => ?_)
    · replace h := z_in hc h
      refine G_widen (k := 2) (n := 260) (by decide) (by decide) ?_
      exact G_sub (lv' := [(0, .ref o), (1, .int l1), (3, .int l3)]) [0, 1, 3] rfl (J53 z l1 l3 h)
    · replace h := z_ip hc h
      refine G_aload_n (pc' := 38) C dX9_put_37 0 rfl rfl ?_
      refine G_get (pc' := 41) (k := 1) C fi_X9 dX9_put_38 tw_fl_X9_17 rfl (by decide) (CB_rd 0 rfl) rfl rfl ?_
      refine G_iload_n (pc' := 42) C dX9_put_41 1 rfl rfl ?_
      refine G_aload_n (pc' := 43) C dX9_put_42 0 rfl rfl ?_
      refine G_aload_n (pc' := 44) C dX9_put_43 0 rfl rfl ?_
      refine G_get (pc' := 47) (k := 1) C fi_X9 dX9_put_44 tw_fl_X9_17 rfl (by decide) (CB_rd 0 rfl) rfl rfl ?_
      refine G_iload_n (pc' := 48) C dX9_put_47 2 rfl rfl ?_
      replace h := ob h
      obtain ⟨v6, hv6, h⟩ := h
      refine G_aald5V (pc' := 49) C dX9_put_48 (CB_rd 2 rfl) hv6 rfl ?_
      replace h := ob h
      obtain ⟨ad7, had7, h⟩ := h
      subst had7
      replace h := ob h
      obtain ⟨q8, hq8, h⟩ := h
      refine G_cV (pc' := 52) C dX9_put_49 (tX9_putTogether κ l o z ad7 q8 hq8) (wV tw_ml_X9_191 tw_im_X9_putTogether tw_se_X9_X9_putTogether tw_in_X9 tw_co_X9_putTogether) yd_X9_putTogether rfl fi_X9 (CB_rd 0 rfl) (by decide) rfl (Nat.le_of_ble_eq_true rfl) rfl rfl ?_
      replace h := ob h
      obtain ⟨z9, hz9, h⟩ := h
      refine C_q_places (pc' := 53) (x := (some q8.1)) C dX9_put_52 hz9 rfl ?_
      exact G_sub (lv' := [(0, .ref o), (1, .int l1), (3, .int l3)]) [0, 1, 3] rfl (J53 z9 l1 l3 h)
  have J17 : ∀ (z : CS) (l1 : Int32) (l2 : Int32) (s0 : Int32), fX9_put_J17 o z l1 l2 s0 = some q → GC κ p l e s m ([.ref o, .int a1, .int a2] : List Value).toArray below meth c rmX9_put 4 o (some (Value.int q.1)) (CB κ o q.2) 0 0 z 17 [(0, .ref o), (1, .int l1), (2, .int l2)] [.int s0] := by
    intro z l1 l2 s0 h
    unfold fX9_put_J17 at h
    refine G_istore_n (pc' := 18) C dX9_put_17 [(3, .int s0), (0, .ref o), (1, .int l1), (2, .int l2)] (by decide) rfl rfl ?_
    refine G_iload_n (pc' := 19) C dX9_put_18 0 rfl rfl ?_
    refine G_if_ne (tgt := 33) (pc' := 22) C dX9_put_19 (by decide) rfl (fun hc => ?_) (fun hc => ?_)
    · replace h := z_in hc h
      exact G_sub (lv' := [(0, .ref o), (1, .int l1), (2, .int l2), (3, .int s0)]) [1, 2, 3, 0] rfl (J33 z l1 l2 s0 h)
    · replace h := z_ip hc h
      refine G_aload_n (pc' := 23) C dX9_put_22 1 rfl rfl ?_
      refine G_aload_n (pc' := 24) C dX9_put_23 1 rfl rfl ?_
      refine G_get (pc' := 27) (k := 1) C fi_X9 dX9_put_24 tw_fl_X9_17 rfl (by decide) (CB_rd 0 rfl) rfl rfl ?_
      refine G_iload_n (pc' := 28) C dX9_put_27 3 rfl rfl ?_
      replace h := ob h
      obtain ⟨v10, hv10, h⟩ := h
      refine G_aald5V (pc' := 29) C dX9_put_28 (CB_rd 2 rfl) hv10 rfl ?_
      replace h := ob h
      obtain ⟨ad11, had11, h⟩ := h
      subst had11
      replace h := ob h
      obtain ⟨q12, hq12, h⟩ := h
      refine G_cV0 (pc' := 32) C dX9_put_29 (tX9_findingOfInner κ l o z ad11 q12 hq12) (wV tw_ml_X9_187 tw_im_X9_findingOfInner tw_se_X9_X9_findingOfInner tw_in_X9 tw_co_X9_findingOfInner) yd_X9_findingOfInner rfl fi_X9 (CB_rd 0 rfl) rfl rfl (by decide) rfl (Nat.le_of_ble_eq_true rfl) rfl rfl ?_
      refine G_istore_n (pc' := 33) C dX9_put_32 [(3, .int q12.1), (0, .ref o), (1, .int l1), (2, .int l2)] (by decide) rfl rfl ?_
      exact G_sub (lv' := [(0, .ref o), (1, .int l1), (2, .int l2), (3, .int q12.1)]) [1, 2, 3, 0] rfl (J33 q12.2 l1 l2 q12.1 h)
  unfold fX9_put at h
  refine G_sub (lv' := [(0, .ref o), (1, .int a1), (2, .int a2)]) [0, 1, 2] rfl ?_
  refine G_iload_n (pc' := 1) C dX9_put_0 1 rfl rfl ?_
  replace h := ob h
  obtain ⟨q1, hq1, h⟩ := h
  refine G_cS0 (pc' := 4) C dX9_put_1 (tX9_isPlace κ l (CA o) (CB κ o z) a1 q1 hq1) (wS tw_ml_X9_131 tw_st_X9_isPlace tw_co_X9_isPlace tw_in_X9) yd_X9_isPlace rfl rfl rfl (by decide) rfl (Nat.le_of_ble_eq_true rfl) rfl rfl ?_
  refine G_if_ne (tgt := 12) (pc' := 7) C dX9_put_4 (by decide) rfl (fun hc => ?_) (fun hc => ?_)
  · replace h := z_in hc h
    refine G_aload_n (pc' := 13) C dX9_put_12 0 rfl rfl ?_
    refine G_iload_n (pc' := 14) C dX9_put_13 2 rfl rfl ?_
    replace h := ob h
    obtain ⟨q2, hq2, h⟩ := h
    refine G_cV0 (pc' := 17) C dX9_put_14 (tX9_findingOfTask κ l o z a2 q2 hq2) (wV tw_ml_X9_145 tw_im_X9_findingOfTask tw_se_X9_X9_findingOfTask tw_in_X9 tw_co_X9_findingOfTask) yd_X9_findingOfTask rfl fi_X9 (CB_rd 0 rfl) rfl rfl (by decide) rfl (Nat.le_of_ble_eq_true rfl) rfl rfl ?_
    exact G_sub (lv' := [(0, .ref o), (1, .int a1), (2, .int a2)]) [0, 1, 2] rfl (J17 q2.2 a1 a2 q2.1 h)
  · replace h := z_ip hc h
    refine G_bipush (pc' := 9) (v := (-2 : Int32)) C dX9_put_7 (by decide) rfl ?_
    refine G_goto (tgt := 17) C dX9_put_9 (by decide) ?_
    exact G_sub (lv' := [(0, .ref o), (1, .int a1), (2, .int a2)]) [0, 1, 2] rfl (J17 z a1 a2 (-2 : Int32) h)
theorem dX9_saidByFormula_0 : decode cX9_saidByFormula 0 = .ok (.iconst 0, 1) := by decide +kernel
theorem dX9_saidByFormula_1 : decode cX9_saidByFormula 1 = .ok (.istore_n 2, 1) := by decide +kernel
theorem dX9_saidByFormula_2 : decode cX9_saidByFormula 2 = .ok (.iconst 0, 1) := by decide +kernel
theorem dX9_saidByFormula_3 : decode cX9_saidByFormula 3 = .ok (.istore_n 3, 1) := by decide +kernel
theorem dX9_saidByFormula_4 : decode cX9_saidByFormula 4 = .ok (.iload_n 3, 1) := by decide +kernel
theorem dX9_saidByFormula_5 : decode cX9_saidByFormula 5 = .ok (.aload_n 0, 1) := by decide +kernel
theorem dX9_saidByFormula_6 : decode cX9_saidByFormula 6 = .ok (.getfield 86, 3) := by decide +kernel
theorem dX9_saidByFormula_9 : decode cX9_saidByFormula 9 = .ok (.if_icmp .ge 79, 3) := by decide +kernel
theorem dX9_saidByFormula_12 : decode cX9_saidByFormula 12 = .ok (.aload_n 0, 1) := by decide +kernel
theorem dX9_saidByFormula_13 : decode cX9_saidByFormula 13 = .ok (.getfield 24, 3) := by decide +kernel
theorem dX9_saidByFormula_16 : decode cX9_saidByFormula 16 = .ok (.iload_n 3, 1) := by decide +kernel
theorem dX9_saidByFormula_17 : decode cX9_saidByFormula 17 = .ok (.iaload, 1) := by decide +kernel
theorem dX9_saidByFormula_18 : decode cX9_saidByFormula 18 = .ok (.istore 4, 2) := by decide +kernel
theorem dX9_saidByFormula_20 : decode cX9_saidByFormula 20 = .ok (.iload 4, 2) := by decide +kernel
theorem dX9_saidByFormula_22 : decode cX9_saidByFormula 22 = .ok (.bipush 12, 2) := by decide +kernel
theorem dX9_saidByFormula_24 : decode cX9_saidByFormula 24 = .ok (.if_icmp .ne 10, 3) := by decide +kernel
theorem dX9_saidByFormula_27 : decode cX9_saidByFormula 27 = .ok (.iload_n 2, 1) := by decide +kernel
theorem dX9_saidByFormula_28 : decode cX9_saidByFormula 28 = .ok (.iconst 1, 1) := by decide +kernel
theorem dX9_saidByFormula_29 : decode cX9_saidByFormula 29 = .ok (.ixor, 1) := by decide +kernel
theorem dX9_saidByFormula_30 : decode cX9_saidByFormula 30 = .ok (.istore_n 2, 1) := by decide +kernel
theorem dX9_saidByFormula_31 : decode cX9_saidByFormula 31 = .ok (.goto 51, 3) := by decide +kernel
theorem dX9_saidByFormula_34 : decode cX9_saidByFormula 34 = .ok (.iload 4, 2) := by decide +kernel
theorem dX9_saidByFormula_36 : decode cX9_saidByFormula 36 = .ok (.bipush 10, 2) := by decide +kernel
theorem dX9_saidByFormula_38 : decode cX9_saidByFormula 38 = .ok (.if_icmp .ne 15, 3) := by decide +kernel
theorem dX9_saidByFormula_41 : decode cX9_saidByFormula 41 = .ok (.iload_n 2, 1) := by decide +kernel
theorem dX9_saidByFormula_42 : decode cX9_saidByFormula 42 = .ok (.iconst 1, 1) := by decide +kernel
theorem dX9_saidByFormula_43 : decode cX9_saidByFormula 43 = .ok (.ishr, 1) := by decide +kernel
theorem dX9_saidByFormula_44 : decode cX9_saidByFormula 44 = .ok (.iload_n 2, 1) := by decide +kernel
theorem dX9_saidByFormula_45 : decode cX9_saidByFormula 45 = .ok (.bipush (-2), 2) := by decide +kernel
theorem dX9_saidByFormula_47 : decode cX9_saidByFormula 47 = .ok (.ior, 1) := by decide +kernel
theorem dX9_saidByFormula_48 : decode cX9_saidByFormula 48 = .ok (.iand, 1) := by decide +kernel
theorem dX9_saidByFormula_49 : decode cX9_saidByFormula 49 = .ok (.istore_n 2, 1) := by decide +kernel
theorem dX9_saidByFormula_50 : decode cX9_saidByFormula 50 = .ok (.goto 32, 3) := by decide +kernel
theorem dX9_saidByFormula_53 : decode cX9_saidByFormula 53 = .ok (.iload 4, 2) := by decide +kernel
theorem dX9_saidByFormula_55 : decode cX9_saidByFormula 55 = .ok (.bipush 11, 2) := by decide +kernel
theorem dX9_saidByFormula_57 : decode cX9_saidByFormula 57 = .ok (.if_icmp .ne 14, 3) := by decide +kernel
theorem dX9_saidByFormula_60 : decode cX9_saidByFormula 60 = .ok (.iload_n 2, 1) := by decide +kernel
theorem dX9_saidByFormula_61 : decode cX9_saidByFormula 61 = .ok (.iconst 1, 1) := by decide +kernel
theorem dX9_saidByFormula_62 : decode cX9_saidByFormula 62 = .ok (.ishr, 1) := by decide +kernel
theorem dX9_saidByFormula_63 : decode cX9_saidByFormula 63 = .ok (.iload_n 2, 1) := by decide +kernel
theorem dX9_saidByFormula_64 : decode cX9_saidByFormula 64 = .ok (.iconst 1, 1) := by decide +kernel
theorem dX9_saidByFormula_65 : decode cX9_saidByFormula 65 = .ok (.iand, 1) := by decide +kernel
theorem dX9_saidByFormula_66 : decode cX9_saidByFormula 66 = .ok (.ior, 1) := by decide +kernel
theorem dX9_saidByFormula_67 : decode cX9_saidByFormula 67 = .ok (.istore_n 2, 1) := by decide +kernel
theorem dX9_saidByFormula_68 : decode cX9_saidByFormula 68 = .ok (.goto 14, 3) := by decide +kernel
theorem dX9_saidByFormula_71 : decode cX9_saidByFormula 71 = .ok (.iload_n 2, 1) := by decide +kernel
theorem dX9_saidByFormula_72 : decode cX9_saidByFormula 72 = .ok (.iconst 1, 1) := by decide +kernel
theorem dX9_saidByFormula_73 : decode cX9_saidByFormula 73 = .ok (.ishl, 1) := by decide +kernel
theorem dX9_saidByFormula_74 : decode cX9_saidByFormula 74 = .ok (.iload_n 1, 1) := by decide +kernel
theorem dX9_saidByFormula_75 : decode cX9_saidByFormula 75 = .ok (.iload 4, 2) := by decide +kernel
theorem dX9_saidByFormula_77 : decode cX9_saidByFormula 77 = .ok (.ishr, 1) := by decide +kernel
theorem dX9_saidByFormula_78 : decode cX9_saidByFormula 78 = .ok (.iconst 1, 1) := by decide +kernel
theorem dX9_saidByFormula_79 : decode cX9_saidByFormula 79 = .ok (.iand, 1) := by decide +kernel
theorem dX9_saidByFormula_80 : decode cX9_saidByFormula 80 = .ok (.ior, 1) := by decide +kernel
theorem dX9_saidByFormula_81 : decode cX9_saidByFormula 81 = .ok (.istore_n 2, 1) := by decide +kernel
theorem dX9_saidByFormula_82 : decode cX9_saidByFormula 82 = .ok (.iinc 3 1, 3) := by decide +kernel
theorem dX9_saidByFormula_85 : decode cX9_saidByFormula 85 = .ok (.goto (-81), 3) := by decide +kernel
theorem dX9_saidByFormula_88 : decode cX9_saidByFormula 88 = .ok (.iload_n 2, 1) := by decide +kernel
theorem dX9_saidByFormula_89 : decode cX9_saidByFormula 89 = .ok (.iconst 1, 1) := by decide +kernel
theorem dX9_saidByFormula_90 : decode cX9_saidByFormula 90 = .ok (.iand, 1) := by decide +kernel
theorem dX9_saidByFormula_91 : decode cX9_saidByFormula 91 = .ok (.ireturn, 1) := by decide +kernel
theorem yd_X9_saidByFormula : yX9_saidByFormula.cls = RX9 ∧ yX9_saidByFormula.cls ≠ "java/lang/invoke/MethodHandle" ∧ yX9_saidByFormula.cls ≠ "java/lang/invoke/VarHandle" ∧ (parseMethodDescriptor yX9_saidByFormula.desc).map (fun d => d.parameters.length) = some 1 := by decide +kernel
abbrev rmX9_saidByFormula : Room := { frames := 0, cells := 0, slots := 0, locals := 0 }
def fX9_saidByFormula_L4_J82 (o : Nat) (z : CS) (l1 : Int32) (l2 : Int32) (l3 : Int32) : Option ((Int32 × Int32) ⊕ Int32) :=
  some (.inl (l2, (l3 + (1 : Int32))))
def fX9_saidByFormula_L4 (o : Nat) (z : CS) (l1 : Int32) (l2 : Int32) (l3 : Int32) : Option ((Int32 × Int32) ⊕ Int32) :=
  if (z.1 1) ≤ l3 then
    some (.inr l2)
  else
    (aI 100 (z.2.1 0) l3).bind fun v1 =>
    if v1 = (12 : Int32) then
      fX9_saidByFormula_L4_J82 o z l1 (l2 ^^^ (1 : Int32)) l3
    else
      if v1 = (10 : Int32) then
        fX9_saidByFormula_L4_J82 o z l1 ((l2 >>> ((1 : Int32) &&& 31)) &&& (l2 ||| (-2 : Int32))) l3
      else
        if v1 = (11 : Int32) then
          fX9_saidByFormula_L4_J82 o z l1 ((l2 >>> ((1 : Int32) &&& 31)) ||| (l2 &&& (1 : Int32))) l3
        else
          fX9_saidByFormula_L4_J82 o z l1 ((l2 <<< ((1 : Int32) &&& 31)) ||| ((l1 >>> (v1 &&& 31)) &&& (1 : Int32))) l3
def fX9_saidByFormula (o : Nat) (z : CS) (a1 : Int32) : Option (Int32) :=
  (lpN (fun u => fX9_saidByFormula_L4 o z a1 u.1 u.2) bigN ((0 : Int32), (0 : Int32))).bind fun e2 =>
  some (e2 &&& (1 : Int32))
set_option maxHeartbeats 4000000 in
set_option maxRecDepth 100000 in
theorem tX9_saidByFormula_L4 {κ : KK} {p : Program} {l : Launch} {e : Env} {s : State} {m : MethodId} {args : Array Value} {below : List Frame} {meth : Method} {c : Code} (C : Cx κ p s m args meth c cX9_saidByFormula 5 RX9 (some .int)) {o : Nat} {v : Option Value} {B' : Heap → Prop} {z : CS} {l1 : Int32} {l2 : Int32} {l3 : Int32} {y : (Int32 × Int32) ⊕ Int32} (h : fX9_saidByFormula_L4 o z l1 l2 l3 = some y) (kc : ∀ u, y = .inl u → GC κ p l e s m args below meth c rmX9_saidByFormula 5 o v B' 0 0 z 4 [(0, .ref o), (1, .int l1), (2, .int u.1), (3, .int u.2)] []) (kx : ∀ w, y = .inr w → GC κ p l e s m args below meth c rmX9_saidByFormula 5 o v B' 0 0 z 88 [(2, .int w)] []) : GC κ p l e s m args below meth c rmX9_saidByFormula 5 o v B' 0 0 z 4 [(0, .ref o), (1, .int l1), (2, .int l2), (3, .int l3)] [] := by
  have J82 : ∀ (l2 : Int32) (l3 : Int32), fX9_saidByFormula_L4_J82 o z l1 l2 l3 = some y → GC κ p l e s m args below meth c rmX9_saidByFormula 5 o v B' 0 0 z 82 [(0, .ref o), (1, .int l1), (2, .int l2), (3, .int l3)] [] := by
    intro l2 l3 h
    unfold fX9_saidByFormula_L4_J82 at h
    refine G_iinc (pc' := 85) C dX9_saidByFormula_82 3 rfl rfl [(3, .int (l3 + (1 : Int32))), (0, .ref o), (1, .int l1), (2, .int l2)] (by decide) rfl rfl ?_
    refine G_goto (tgt := 4) C dX9_saidByFormula_85 (by decide) ?_
    exact G_sub (lv' := [(0, .ref o), (1, .int l1), (2, .int l2), (3, .int (l3 + (1 : Int32)))]) [1, 2, 3, 0] rfl (kc (l2, (l3 + (1 : Int32))) (Option.some.inj h).symm)
  unfold fX9_saidByFormula_L4 at h
  refine G_iload_n (pc' := 5) C dX9_saidByFormula_4 3 rfl rfl ?_
  refine G_aload_n (pc' := 6) C dX9_saidByFormula_5 0 rfl rfl ?_
  refine G_get (pc' := 9) (k := 13) C fi_X9 dX9_saidByFormula_6 tw_fl_X9_86 rfl (by decide) (CB_rd 0 rfl) rfl rfl ?_
  refine G_icmp_ge (tgt := 88) (pc' := 12) C dX9_saidByFormula_9 (by decide) rfl (fun hc => ?_) (fun hc => ?_)
  · replace h := z_ip hc h
    exact G_sub (lv' := [(2, .int l2)]) [2] rfl (kx _ (Option.some.inj h).symm)
  · replace h := z_in hc h
    refine G_aload_n (pc' := 13) C dX9_saidByFormula_12 0 rfl rfl ?_
    refine G_get (pc' := 16) (k := 3) C fi_X9 dX9_saidByFormula_13 tw_fl_X9_24 rfl (by decide) (CB_rd 0 rfl) rfl rfl ?_
    refine G_iload_n (pc' := 17) C dX9_saidByFormula_16 3 rfl rfl ?_
    replace h := ob h
    obtain ⟨v1, hv1, h⟩ := h
    refine G_ialdV (pc' := 18) C dX9_saidByFormula_17 (CB_rd 4 rfl) hv1 rfl ?_
    refine G_istore (pc' := 20) C dX9_saidByFormula_18 [(4, .int v1), (0, .ref o), (1, .int l1), (2, .int l2), (3, .int l3)] (by decide) rfl rfl ?_
    refine G_iload (pc' := 22) C dX9_saidByFormula_20 0 rfl rfl ?_
    refine G_bipush (pc' := 24) (v := (12 : Int32)) C dX9_saidByFormula_22 (by decide) rfl ?_
    refine G_icmp_ne (tgt := 34) (pc' := 27) C dX9_saidByFormula_24 (by decide) rfl (fun hc => ?_) (fun hc => ?_)
    · replace h := z_in hc h
      refine G_iload (pc' := 36) C dX9_saidByFormula_34 0 rfl rfl ?_
      refine G_bipush (pc' := 38) (v := (10 : Int32)) C dX9_saidByFormula_36 (by decide) rfl ?_
      refine G_icmp_ne (tgt := 53) (pc' := 41) C dX9_saidByFormula_38 (by decide) rfl (fun hc => ?_) (fun hc => ?_)
      · replace h := z_in hc h
        refine G_iload (pc' := 55) C dX9_saidByFormula_53 0 rfl rfl ?_
        refine G_bipush (pc' := 57) (v := (11 : Int32)) C dX9_saidByFormula_55 (by decide) rfl ?_
        refine G_icmp_ne (tgt := 71) (pc' := 60) C dX9_saidByFormula_57 (by decide) rfl (fun hc => ?_) (fun hc => ?_)
        · replace h := z_in hc h
          refine G_iload_n (pc' := 72) C dX9_saidByFormula_71 3 rfl rfl ?_
          refine G_iconst (pc' := 73) (v := (1 : Int32)) C dX9_saidByFormula_72 (by decide) rfl ?_
          refine G_ishl (pc' := 74) C dX9_saidByFormula_73 rfl ?_
          refine G_iload_n (pc' := 75) C dX9_saidByFormula_74 2 rfl rfl ?_
          refine G_iload (pc' := 77) C dX9_saidByFormula_75 0 rfl rfl ?_
          refine G_ishr (pc' := 78) C dX9_saidByFormula_77 rfl ?_
          refine G_iconst (pc' := 79) (v := (1 : Int32)) C dX9_saidByFormula_78 (by decide) rfl ?_
          refine G_iand (pc' := 80) C dX9_saidByFormula_79 rfl ?_
          refine G_ior (pc' := 81) C dX9_saidByFormula_80 rfl ?_
          refine G_istore_n (pc' := 82) C dX9_saidByFormula_81 [(2, .int ((l2 <<< ((1 : Int32) &&& 31)) ||| ((l1 >>> (v1 &&& 31)) &&& (1 : Int32)))), (4, .int v1), (0, .ref o), (1, .int l1), (3, .int l3)] (by decide) rfl rfl ?_
          exact G_sub (lv' := [(0, .ref o), (1, .int l1), (2, .int ((l2 <<< ((1 : Int32) &&& 31)) ||| ((l1 >>> (v1 &&& 31)) &&& (1 : Int32)))), (3, .int l3)]) [2, 3, 0, 4] rfl (J82 ((l2 <<< ((1 : Int32) &&& 31)) ||| ((l1 >>> (v1 &&& 31)) &&& (1 : Int32))) l3 h)
        · replace h := z_ip hc h
          refine G_iload_n (pc' := 61) C dX9_saidByFormula_60 3 rfl rfl ?_
          refine G_iconst (pc' := 62) (v := (1 : Int32)) C dX9_saidByFormula_61 (by decide) rfl ?_
          refine G_ishr (pc' := 63) C dX9_saidByFormula_62 rfl ?_
          refine G_iload_n (pc' := 64) C dX9_saidByFormula_63 3 rfl rfl ?_
          refine G_iconst (pc' := 65) (v := (1 : Int32)) C dX9_saidByFormula_64 (by decide) rfl ?_
          refine G_iand (pc' := 66) C dX9_saidByFormula_65 rfl ?_
          refine G_ior (pc' := 67) C dX9_saidByFormula_66 rfl ?_
          refine G_istore_n (pc' := 68) C dX9_saidByFormula_67 [(2, .int ((l2 >>> ((1 : Int32) &&& 31)) ||| (l2 &&& (1 : Int32)))), (4, .int v1), (0, .ref o), (1, .int l1), (3, .int l3)] (by decide) rfl rfl ?_
          refine G_goto (tgt := 82) C dX9_saidByFormula_68 (by decide) ?_
          exact G_sub (lv' := [(0, .ref o), (1, .int l1), (2, .int ((l2 >>> ((1 : Int32) &&& 31)) ||| (l2 &&& (1 : Int32)))), (3, .int l3)]) [2, 3, 0, 4] rfl (J82 ((l2 >>> ((1 : Int32) &&& 31)) ||| (l2 &&& (1 : Int32))) l3 h)
      · replace h := z_ip hc h
        refine G_iload_n (pc' := 42) C dX9_saidByFormula_41 3 rfl rfl ?_
        refine G_iconst (pc' := 43) (v := (1 : Int32)) C dX9_saidByFormula_42 (by decide) rfl ?_
        refine G_ishr (pc' := 44) C dX9_saidByFormula_43 rfl ?_
        refine G_iload_n (pc' := 45) C dX9_saidByFormula_44 3 rfl rfl ?_
        refine G_bipush (pc' := 47) (v := (-2 : Int32)) C dX9_saidByFormula_45 (by decide) rfl ?_
        refine G_ior (pc' := 48) C dX9_saidByFormula_47 rfl ?_
        refine G_iand (pc' := 49) C dX9_saidByFormula_48 rfl ?_
        refine G_istore_n (pc' := 50) C dX9_saidByFormula_49 [(2, .int ((l2 >>> ((1 : Int32) &&& 31)) &&& (l2 ||| (-2 : Int32)))), (4, .int v1), (0, .ref o), (1, .int l1), (3, .int l3)] (by decide) rfl rfl ?_
        refine G_goto (tgt := 82) C dX9_saidByFormula_50 (by decide) ?_
        exact G_sub (lv' := [(0, .ref o), (1, .int l1), (2, .int ((l2 >>> ((1 : Int32) &&& 31)) &&& (l2 ||| (-2 : Int32)))), (3, .int l3)]) [2, 3, 0, 4] rfl (J82 ((l2 >>> ((1 : Int32) &&& 31)) &&& (l2 ||| (-2 : Int32))) l3 h)
    · replace h := z_ip hc h
      refine G_iload_n (pc' := 28) C dX9_saidByFormula_27 3 rfl rfl ?_
      refine G_iconst (pc' := 29) (v := (1 : Int32)) C dX9_saidByFormula_28 (by decide) rfl ?_
      refine G_ixor (pc' := 30) C dX9_saidByFormula_29 rfl ?_
      refine G_istore_n (pc' := 31) C dX9_saidByFormula_30 [(2, .int (l2 ^^^ (1 : Int32))), (4, .int v1), (0, .ref o), (1, .int l1), (3, .int l3)] (by decide) rfl rfl ?_
      refine G_goto (tgt := 82) C dX9_saidByFormula_31 (by decide) ?_
      exact G_sub (lv' := [(0, .ref o), (1, .int l1), (2, .int (l2 ^^^ (1 : Int32))), (3, .int l3)]) [2, 3, 0, 4] rfl (J82 (l2 ^^^ (1 : Int32)) l3 h)
set_option maxHeartbeats 4000000 in
set_option maxRecDepth 100000 in
theorem tX9_saidByFormula (κ : KK) (l : Launch) (o : Nat) (z : CS) (a1 : Int32) (q : Int32) (h : fX9_saidByFormula o z a1 = some q) : MM κ l yX9_saidByFormula cX9_saidByFormula 5 (some .int) rmX9_saidByFormula (CA o) [.ref o, .int a1] (CB κ o z) (some (Value.int q)) (CB κ o z) := by
  refine MM.of (by decide +kernel) (Nat.le_of_ble_eq_true rfl) ?_
  intro p e s m below meth c C hnm
  unfold fX9_saidByFormula at h
  refine G_sub (lv' := [(0, .ref o), (1, .int a1)]) [0, 1] rfl ?_
  refine G_iconst (pc' := 1) (v := (0 : Int32)) C dX9_saidByFormula_0 (by decide) rfl ?_
  refine G_istore_n (pc' := 2) C dX9_saidByFormula_1 [(2, .int (0 : Int32)), (0, .ref o), (1, .int a1)] (by decide) rfl rfl ?_
  refine G_iconst (pc' := 3) (v := (0 : Int32)) C dX9_saidByFormula_2 (by decide) rfl ?_
  refine G_istore_n (pc' := 4) C dX9_saidByFormula_3 [(3, .int (0 : Int32)), (2, .int (0 : Int32)), (0, .ref o), (1, .int a1)] (by decide) rfl rfl ?_
  replace h := ob h
  obtain ⟨e2, hle2, h⟩ := h
  refine G_sub (lv' := [(0, .ref o), (1, .int a1), (2, .int (0 : Int32)), (3, .int (0 : Int32))]) [2, 3, 1, 0] rfl ?_
  refine lpN_ind (body := fun u => fX9_saidByFormula_L4 o z a1 u.1 u.2) (P := fun u => GC κ p l e s m ([.ref o, .int a1] : List Value).toArray below meth c rmX9_saidByFormula 5 o (some (Value.int q)) (CB κ o z) 0 0 z 4 [(0, .ref o), (1, .int a1), (2, .int u.1), (3, .int u.2)] []) (X := fun w => GC κ p l e s m ([.ref o, .int a1] : List Value).toArray below meth c rmX9_saidByFormula 5 o (some (Value.int q)) (CB κ o z) 0 0 z 88 [(2, .int w)] []) (fun u y hb kc kx => tX9_saidByFormula_L4 C hb kc kx) _ _ _ hle2 ?_
  refine G_iload_n (pc' := 89) C dX9_saidByFormula_88 0 rfl rfl ?_
  refine G_iconst (pc' := 90) (v := (1 : Int32)) C dX9_saidByFormula_89 (by decide) rfl ?_
  refine G_iand (pc' := 91) C dX9_saidByFormula_90 rfl ?_
  obtain rfl := Option.some.inj h
  exact G_iret C dX9_saidByFormula_91 (fun _ h => h)
theorem dX9_bitsOfFormula_0 : decode cX9_bitsOfFormula 0 = .ok (.iconst 0, 1) := by decide +kernel
theorem dX9_bitsOfFormula_1 : decode cX9_bitsOfFormula 1 = .ok (.istore_n 1, 1) := by decide +kernel
theorem dX9_bitsOfFormula_2 : decode cX9_bitsOfFormula 2 = .ok (.iconst 0, 1) := by decide +kernel
theorem dX9_bitsOfFormula_3 : decode cX9_bitsOfFormula 3 = .ok (.istore_n 2, 1) := by decide +kernel
theorem dX9_bitsOfFormula_4 : decode cX9_bitsOfFormula 4 = .ok (.iconst 0, 1) := by decide +kernel
theorem dX9_bitsOfFormula_5 : decode cX9_bitsOfFormula 5 = .ok (.istore_n 3, 1) := by decide +kernel
theorem dX9_bitsOfFormula_6 : decode cX9_bitsOfFormula 6 = .ok (.iload_n 3, 1) := by decide +kernel
theorem dX9_bitsOfFormula_7 : decode cX9_bitsOfFormula 7 = .ok (.aload_n 0, 1) := by decide +kernel
theorem dX9_bitsOfFormula_8 : decode cX9_bitsOfFormula 8 = .ok (.getfield 86, 3) := by decide +kernel
theorem dX9_bitsOfFormula_11 : decode cX9_bitsOfFormula 11 = .ok (.if_icmp .ge 91, 3) := by decide +kernel
theorem dX9_bitsOfFormula_14 : decode cX9_bitsOfFormula 14 = .ok (.aload_n 0, 1) := by decide +kernel
theorem dX9_bitsOfFormula_15 : decode cX9_bitsOfFormula 15 = .ok (.getfield 24, 3) := by decide +kernel
theorem dX9_bitsOfFormula_18 : decode cX9_bitsOfFormula 18 = .ok (.iload_n 3, 1) := by decide +kernel
theorem dX9_bitsOfFormula_19 : decode cX9_bitsOfFormula 19 = .ok (.iaload, 1) := by decide +kernel
theorem dX9_bitsOfFormula_20 : decode cX9_bitsOfFormula 20 = .ok (.istore 4, 2) := by decide +kernel
theorem dX9_bitsOfFormula_22 : decode cX9_bitsOfFormula 22 = .ok (.iload 4, 2) := by decide +kernel
theorem dX9_bitsOfFormula_24 : decode cX9_bitsOfFormula 24 = .ok (.ifCond .lt 32, 3) := by decide +kernel
theorem dX9_bitsOfFormula_27 : decode cX9_bitsOfFormula 27 = .ok (.iload 4, 2) := by decide +kernel
theorem dX9_bitsOfFormula_29 : decode cX9_bitsOfFormula 29 = .ok (.bipush 8, 2) := by decide +kernel
theorem dX9_bitsOfFormula_31 : decode cX9_bitsOfFormula 31 = .ok (.if_icmp .ge 25, 3) := by decide +kernel
theorem dX9_bitsOfFormula_34 : decode cX9_bitsOfFormula 34 = .ok (.iload_n 1, 1) := by decide +kernel
theorem dX9_bitsOfFormula_35 : decode cX9_bitsOfFormula 35 = .ok (.iload 4, 2) := by decide +kernel
theorem dX9_bitsOfFormula_37 : decode cX9_bitsOfFormula 37 = .ok (.ishr, 1) := by decide +kernel
theorem dX9_bitsOfFormula_38 : decode cX9_bitsOfFormula 38 = .ok (.iconst 1, 1) := by decide +kernel
theorem dX9_bitsOfFormula_39 : decode cX9_bitsOfFormula 39 = .ok (.iand, 1) := by decide +kernel
theorem dX9_bitsOfFormula_40 : decode cX9_bitsOfFormula 40 = .ok (.ifCond .ne 16, 3) := by decide +kernel
theorem dX9_bitsOfFormula_43 : decode cX9_bitsOfFormula 43 = .ok (.iload_n 1, 1) := by decide +kernel
theorem dX9_bitsOfFormula_44 : decode cX9_bitsOfFormula 44 = .ok (.iconst 1, 1) := by decide +kernel
theorem dX9_bitsOfFormula_45 : decode cX9_bitsOfFormula 45 = .ok (.iload 4, 2) := by decide +kernel
theorem dX9_bitsOfFormula_47 : decode cX9_bitsOfFormula 47 = .ok (.ishl, 1) := by decide +kernel
theorem dX9_bitsOfFormula_48 : decode cX9_bitsOfFormula 48 = .ok (.ior, 1) := by decide +kernel
theorem dX9_bitsOfFormula_49 : decode cX9_bitsOfFormula 49 = .ok (.istore_n 1, 1) := by decide +kernel
theorem dX9_bitsOfFormula_50 : decode cX9_bitsOfFormula 50 = .ok (.iinc 2 1, 3) := by decide +kernel
theorem dX9_bitsOfFormula_53 : decode cX9_bitsOfFormula 53 = .ok (.goto 43, 3) := by decide +kernel
theorem dX9_bitsOfFormula_56 : decode cX9_bitsOfFormula 56 = .ok (.iload 4, 2) := by decide +kernel
theorem dX9_bitsOfFormula_58 : decode cX9_bitsOfFormula 58 = .ok (.bipush 10, 2) := by decide +kernel
theorem dX9_bitsOfFormula_60 : decode cX9_bitsOfFormula 60 = .ok (.if_icmp .eq 10, 3) := by decide +kernel
theorem dX9_bitsOfFormula_63 : decode cX9_bitsOfFormula 63 = .ok (.iload 4, 2) := by decide +kernel
theorem dX9_bitsOfFormula_65 : decode cX9_bitsOfFormula 65 = .ok (.bipush 11, 2) := by decide +kernel
theorem dX9_bitsOfFormula_67 : decode cX9_bitsOfFormula 67 = .ok (.if_icmp .ne 14, 3) := by decide +kernel
theorem dX9_bitsOfFormula_70 : decode cX9_bitsOfFormula 70 = .ok (.iload_n 2, 1) := by decide +kernel
theorem dX9_bitsOfFormula_71 : decode cX9_bitsOfFormula 71 = .ok (.iconst 2, 1) := by decide +kernel
theorem dX9_bitsOfFormula_72 : decode cX9_bitsOfFormula 72 = .ok (.if_icmp .lt 9, 3) := by decide +kernel
theorem dX9_bitsOfFormula_75 : decode cX9_bitsOfFormula 75 = .ok (.iinc 2 (-1), 3) := by decide +kernel
theorem dX9_bitsOfFormula_78 : decode cX9_bitsOfFormula 78 = .ok (.goto 18, 3) := by decide +kernel
theorem dX9_bitsOfFormula_81 : decode cX9_bitsOfFormula 81 = .ok (.iload 4, 2) := by decide +kernel
theorem dX9_bitsOfFormula_83 : decode cX9_bitsOfFormula 83 = .ok (.bipush 12, 2) := by decide +kernel
theorem dX9_bitsOfFormula_85 : decode cX9_bitsOfFormula 85 = .ok (.if_icmp .ne 8, 3) := by decide +kernel
theorem dX9_bitsOfFormula_88 : decode cX9_bitsOfFormula 88 = .ok (.iload_n 2, 1) := by decide +kernel
theorem dX9_bitsOfFormula_89 : decode cX9_bitsOfFormula 89 = .ok (.iconst 1, 1) := by decide +kernel
theorem dX9_bitsOfFormula_90 : decode cX9_bitsOfFormula 90 = .ok (.if_icmp .ge 6, 3) := by decide +kernel
theorem dX9_bitsOfFormula_93 : decode cX9_bitsOfFormula 93 = .ok (.bipush (-2), 2) := by decide +kernel
theorem dX9_bitsOfFormula_95 : decode cX9_bitsOfFormula 95 = .ok (.ireturn, 1) := by decide +kernel
theorem dX9_bitsOfFormula_96 : decode cX9_bitsOfFormula 96 = .ok (.iinc 3 1, 3) := by decide +kernel
theorem dX9_bitsOfFormula_99 : decode cX9_bitsOfFormula 99 = .ok (.goto (-93), 3) := by decide +kernel
theorem dX9_bitsOfFormula_102 : decode cX9_bitsOfFormula 102 = .ok (.iload_n 2, 1) := by decide +kernel
theorem dX9_bitsOfFormula_103 : decode cX9_bitsOfFormula 103 = .ok (.iconst 1, 1) := by decide +kernel
theorem dX9_bitsOfFormula_104 : decode cX9_bitsOfFormula 104 = .ok (.if_icmp .ne 18, 3) := by decide +kernel
theorem dX9_bitsOfFormula_107 : decode cX9_bitsOfFormula 107 = .ok (.iload_n 1, 1) := by decide +kernel
theorem dX9_bitsOfFormula_108 : decode cX9_bitsOfFormula 108 = .ok (.iload_n 1, 1) := by decide +kernel
theorem dX9_bitsOfFormula_109 : decode cX9_bitsOfFormula 109 = .ok (.iconst 1, 1) := by decide +kernel
theorem dX9_bitsOfFormula_110 : decode cX9_bitsOfFormula 110 = .ok (.iadd, 1) := by decide +kernel
theorem dX9_bitsOfFormula_111 : decode cX9_bitsOfFormula 111 = .ok (.iand, 1) := by decide +kernel
theorem dX9_bitsOfFormula_112 : decode cX9_bitsOfFormula 112 = .ok (.ifCond .ne 10, 3) := by decide +kernel
theorem dX9_bitsOfFormula_115 : decode cX9_bitsOfFormula 115 = .ok (.iload_n 1, 1) := by decide +kernel
theorem dX9_bitsOfFormula_116 : decode cX9_bitsOfFormula 116 = .ok (.invokestatic 171, 3) := by decide +kernel
theorem dX9_bitsOfFormula_119 : decode cX9_bitsOfFormula 119 = .ok (.goto 5, 3) := by decide +kernel
theorem dX9_bitsOfFormula_122 : decode cX9_bitsOfFormula 122 = .ok (.bipush (-2), 2) := by decide +kernel
theorem dX9_bitsOfFormula_124 : decode cX9_bitsOfFormula 124 = .ok (.ireturn, 1) := by decide +kernel
theorem yd_X9_bitsOfFormula : yX9_bitsOfFormula.cls = RX9 ∧ yX9_bitsOfFormula.cls ≠ "java/lang/invoke/MethodHandle" ∧ yX9_bitsOfFormula.cls ≠ "java/lang/invoke/VarHandle" ∧ (parseMethodDescriptor yX9_bitsOfFormula.desc).map (fun d => d.parameters.length) = some 0 := by decide +kernel
abbrev rmX9_bitsOfFormula : Room := { frames := 1, cells := 0, slots := 0, locals := 20 }
def fX9_bitsOfFormula_L6_J96 (o : Nat) (z : CS) (l1 : Int32) (l2 : Int32) (l3 : Int32) : Option ((Int32 × Int32 × Int32) ⊕ ((Int32 × Int32) ⊕ Int32)) :=
  some (.inl (l1, l2, (l3 + (1 : Int32))))
def fX9_bitsOfFormula_L6_J93 (o : Nat) (z : CS) : Option ((Int32 × Int32 × Int32) ⊕ ((Int32 × Int32) ⊕ Int32)) :=
  some (.inr (.inr (-2 : Int32)))
def fX9_bitsOfFormula_L6_J81 (o : Nat) (z : CS) (l1 : Int32) (l2 : Int32) (l3 : Int32) (l4 : Int32) : Option ((Int32 × Int32 × Int32) ⊕ ((Int32 × Int32) ⊕ Int32)) :=
  if l4 = (12 : Int32) then
    if (1 : Int32) ≤ l2 then
      fX9_bitsOfFormula_L6_J96 o z l1 l2 l3
    else
      fX9_bitsOfFormula_L6_J93 o z
  else
    fX9_bitsOfFormula_L6_J93 o z
def fX9_bitsOfFormula_L6_J70 (o : Nat) (z : CS) (l1 : Int32) (l2 : Int32) (l3 : Int32) (l4 : Int32) : Option ((Int32 × Int32 × Int32) ⊕ ((Int32 × Int32) ⊕ Int32)) :=
  if l2 < (2 : Int32) then
    fX9_bitsOfFormula_L6_J81 o z l1 l2 l3 l4
  else
    fX9_bitsOfFormula_L6_J96 o z l1 (l2 + (-1 : Int32)) l3
def fX9_bitsOfFormula_L6_J56 (o : Nat) (z : CS) (l1 : Int32) (l2 : Int32) (l3 : Int32) (l4 : Int32) : Option ((Int32 × Int32 × Int32) ⊕ ((Int32 × Int32) ⊕ Int32)) :=
  if l4 = (10 : Int32) then
    fX9_bitsOfFormula_L6_J70 o z l1 l2 l3 l4
  else
    if l4 = (11 : Int32) then
      fX9_bitsOfFormula_L6_J70 o z l1 l2 l3 l4
    else
      fX9_bitsOfFormula_L6_J81 o z l1 l2 l3 l4
def fX9_bitsOfFormula_L6 (o : Nat) (z : CS) (l1 : Int32) (l2 : Int32) (l3 : Int32) : Option ((Int32 × Int32 × Int32) ⊕ ((Int32 × Int32) ⊕ Int32)) :=
  if (z.1 1) ≤ l3 then
    some (.inr (.inl (l1, l2)))
  else
    (aI 100 (z.2.1 0) l3).bind fun v1 =>
    if v1 < 0 then
      fX9_bitsOfFormula_L6_J56 o z l1 l2 l3 v1
    else
      if (8 : Int32) ≤ v1 then
        fX9_bitsOfFormula_L6_J56 o z l1 l2 l3 v1
      else
        if ((l1 >>> (v1 &&& 31)) &&& (1 : Int32)) = 0 then
          fX9_bitsOfFormula_L6_J96 o z (l1 ||| ((1 : Int32) <<< (v1 &&& 31))) (l2 + (1 : Int32)) l3
        else
          fX9_bitsOfFormula_L6_J56 o z l1 l2 l3 v1
def fX9_bitsOfFormula_J122 (o : Nat) (z : CS) : Option (Int32) :=
  some (-2 : Int32)
def fX9_bitsOfFormula (o : Nat) (z : CS) : Option (Int32) :=
  (lpN (fun u => fX9_bitsOfFormula_L6 o z u.1 u.2.1 u.2.2) bigN ((0 : Int32), (0 : Int32), (0 : Int32))).bind fun e2 =>
  sel e2 (fun x3 =>
    if x3.2 = (1 : Int32) then
      if (x3.1 &&& (x3.1 + (1 : Int32))) = 0 then
        (fJ6_bitCount_0f7a4 x3.1).bind fun q4 =>
        some q4
      else
        fX9_bitsOfFormula_J122 o z
    else
      fX9_bitsOfFormula_J122 o z
    ) (fun rt => some rt)
set_option maxHeartbeats 4000000 in
set_option maxRecDepth 100000 in
theorem tX9_bitsOfFormula_L6 {κ : KK} {p : Program} {l : Launch} {e : Env} {s : State} {m : MethodId} {args : Array Value} {below : List Frame} {meth : Method} {c : Code} (C : Cx κ p s m args meth c cX9_bitsOfFormula 5 RX9 (some .int)) {o : Nat} {v : Option Value} {B' : Heap → Prop} {z : CS} {l1 : Int32} {l2 : Int32} {l3 : Int32} {y : (Int32 × Int32 × Int32) ⊕ ((Int32 × Int32) ⊕ Int32)} (h : fX9_bitsOfFormula_L6 o z l1 l2 l3 = some y) (kc : ∀ u, y = .inl u → GC κ p l e s m args below meth c rmX9_bitsOfFormula 5 o v B' 0 0 z 6 [(0, .ref o), (1, .int u.1), (2, .int u.2.1), (3, .int u.2.2)] []) (kx : ∀ w, y = .inr w → (∀ x, w = .inl x → GC κ p l e s m args below meth c rmX9_bitsOfFormula 5 o v B' 0 0 z 102 [(1, .int x.1), (2, .int x.2)] []) ∧ (∀ rt, w = .inr rt → v = (some (Value.int rt)) ∧ B' = (CB κ o z))) : GC κ p l e s m args below meth c rmX9_bitsOfFormula 5 o v B' 0 0 z 6 [(0, .ref o), (1, .int l1), (2, .int l2), (3, .int l3)] [] := by
  have J96 : ∀ (l1 : Int32) (l2 : Int32) (l3 : Int32), fX9_bitsOfFormula_L6_J96 o z l1 l2 l3 = some y → GC κ p l e s m args below meth c rmX9_bitsOfFormula 5 o v B' 0 0 z 96 [(0, .ref o), (1, .int l1), (2, .int l2), (3, .int l3)] [] := by
    intro l1 l2 l3 h
    unfold fX9_bitsOfFormula_L6_J96 at h
    refine G_iinc (pc' := 99) C dX9_bitsOfFormula_96 3 rfl rfl [(3, .int (l3 + (1 : Int32))), (0, .ref o), (1, .int l1), (2, .int l2)] (by decide) rfl rfl ?_
    refine G_goto (tgt := 6) C dX9_bitsOfFormula_99 (by decide) ?_
    exact G_sub (lv' := [(0, .ref o), (1, .int l1), (2, .int l2), (3, .int (l3 + (1 : Int32)))]) [1, 2, 3, 0] rfl (kc (l1, l2, (l3 + (1 : Int32))) (Option.some.inj h).symm)
  have J93 : fX9_bitsOfFormula_L6_J93 o z = some y → GC κ p l e s m args below meth c rmX9_bitsOfFormula 5 o v B' 0 0 z 93 [] [] := by
    intro  h
    unfold fX9_bitsOfFormula_L6_J93 at h
    refine G_bipush (pc' := 95) (v := (-2 : Int32)) C dX9_bitsOfFormula_93 (by decide) rfl ?_
    obtain ⟨hv, hB⟩ := (kx _ (Option.some.inj h).symm).2 _ rfl
    subst hv
    subst hB
    exact G_iret C dX9_bitsOfFormula_95 (fun _ h => h)
  have J81 : ∀ (l1 : Int32) (l2 : Int32) (l3 : Int32) (l4 : Int32), fX9_bitsOfFormula_L6_J81 o z l1 l2 l3 l4 = some y → GC κ p l e s m args below meth c rmX9_bitsOfFormula 5 o v B' 0 0 z 81 [(0, .ref o), (1, .int l1), (2, .int l2), (3, .int l3), (4, .int l4)] [] := by
    intro l1 l2 l3 l4 h
    unfold fX9_bitsOfFormula_L6_J81 at h
    refine G_iload (pc' := 83) C dX9_bitsOfFormula_81 4 rfl rfl ?_
    refine G_bipush (pc' := 85) (v := (12 : Int32)) C dX9_bitsOfFormula_83 (by decide) rfl ?_
    refine G_icmp_ne (tgt := 93) (pc' := 88) C dX9_bitsOfFormula_85 (by decide) rfl (fun hc => ?_) (fun hc => ?_)
    · replace h := z_in hc h
      exact G_sub (lv' := []) [] rfl (J93  h)
    · replace h := z_ip hc h
      refine G_iload_n (pc' := 89) C dX9_bitsOfFormula_88 2 rfl rfl ?_
      refine G_iconst (pc' := 90) (v := (1 : Int32)) C dX9_bitsOfFormula_89 (by decide) rfl ?_
      refine G_icmp_ge (tgt := 96) (pc' := 93) C dX9_bitsOfFormula_90 (by decide) rfl (fun hc => ?_) (fun hc => ?_)
      · replace h := z_ip hc h
        exact G_sub (lv' := [(0, .ref o), (1, .int l1), (2, .int l2), (3, .int l3)]) [0, 1, 2, 3] rfl (J96 l1 l2 l3 h)
      · replace h := z_in hc h
        exact G_sub (lv' := []) [] rfl (J93  h)
  have J70 : ∀ (l1 : Int32) (l2 : Int32) (l3 : Int32) (l4 : Int32), fX9_bitsOfFormula_L6_J70 o z l1 l2 l3 l4 = some y → GC κ p l e s m args below meth c rmX9_bitsOfFormula 5 o v B' 0 0 z 70 [(0, .ref o), (1, .int l1), (2, .int l2), (3, .int l3), (4, .int l4)] [] := by
    intro l1 l2 l3 l4 h
    unfold fX9_bitsOfFormula_L6_J70 at h
    refine G_iload_n (pc' := 71) C dX9_bitsOfFormula_70 2 rfl rfl ?_
    refine G_iconst (pc' := 72) (v := (2 : Int32)) C dX9_bitsOfFormula_71 (by decide) rfl ?_
    refine G_icmp_lt (tgt := 81) (pc' := 75) C dX9_bitsOfFormula_72 (by decide) rfl (fun hc => ?_) (fun hc => ?_)
    · replace h := z_ip hc h
      exact G_sub (lv' := [(0, .ref o), (1, .int l1), (2, .int l2), (3, .int l3), (4, .int l4)]) [0, 1, 2, 3, 4] rfl (J81 l1 l2 l3 l4 h)
    · replace h := z_in hc h
      refine G_iinc (pc' := 78) C dX9_bitsOfFormula_75 2 rfl rfl [(2, .int (l2 + (-1 : Int32))), (0, .ref o), (1, .int l1), (3, .int l3), (4, .int l4)] (by decide) rfl rfl ?_
      refine G_goto (tgt := 96) C dX9_bitsOfFormula_78 (by decide) ?_
      exact G_sub (lv' := [(0, .ref o), (1, .int l1), (2, .int (l2 + (-1 : Int32))), (3, .int l3)]) [1, 2, 0, 3] rfl (J96 l1 (l2 + (-1 : Int32)) l3 h)
  have J56 : ∀ (l1 : Int32) (l2 : Int32) (l3 : Int32) (l4 : Int32), fX9_bitsOfFormula_L6_J56 o z l1 l2 l3 l4 = some y → GC κ p l e s m args below meth c rmX9_bitsOfFormula 5 o v B' 0 0 z 56 [(0, .ref o), (1, .int l1), (2, .int l2), (3, .int l3), (4, .int l4)] [] := by
    intro l1 l2 l3 l4 h
    unfold fX9_bitsOfFormula_L6_J56 at h
    refine G_iload (pc' := 58) C dX9_bitsOfFormula_56 4 rfl rfl ?_
    refine G_bipush (pc' := 60) (v := (10 : Int32)) C dX9_bitsOfFormula_58 (by decide) rfl ?_
    refine G_icmp_eq (tgt := 70) (pc' := 63) C dX9_bitsOfFormula_60 (by decide) rfl (fun hc => ?_) (fun hc => ?_)
    · replace h := z_ip hc h
      exact G_sub (lv' := [(0, .ref o), (1, .int l1), (2, .int l2), (3, .int l3), (4, .int l4)]) [0, 1, 2, 3, 4] rfl (J70 l1 l2 l3 l4 h)
    · replace h := z_in hc h
      refine G_iload (pc' := 65) C dX9_bitsOfFormula_63 4 rfl rfl ?_
      refine G_bipush (pc' := 67) (v := (11 : Int32)) C dX9_bitsOfFormula_65 (by decide) rfl ?_
      refine G_icmp_ne (tgt := 81) (pc' := 70) C dX9_bitsOfFormula_67 (by decide) rfl (fun hc => ?_) (fun hc => ?_)
      · replace h := z_in hc h
        exact G_sub (lv' := [(0, .ref o), (1, .int l1), (2, .int l2), (3, .int l3), (4, .int l4)]) [0, 1, 2, 3, 4] rfl (J81 l1 l2 l3 l4 h)
      · replace h := z_ip hc h
        exact G_sub (lv' := [(0, .ref o), (1, .int l1), (2, .int l2), (3, .int l3), (4, .int l4)]) [0, 1, 2, 3, 4] rfl (J70 l1 l2 l3 l4 h)
  unfold fX9_bitsOfFormula_L6 at h
  refine G_iload_n (pc' := 7) C dX9_bitsOfFormula_6 3 rfl rfl ?_
  refine G_aload_n (pc' := 8) C dX9_bitsOfFormula_7 0 rfl rfl ?_
  refine G_get (pc' := 11) (k := 13) C fi_X9 dX9_bitsOfFormula_8 tw_fl_X9_86 rfl (by decide) (CB_rd 0 rfl) rfl rfl ?_
  refine G_icmp_ge (tgt := 102) (pc' := 14) C dX9_bitsOfFormula_11 (by decide) rfl (fun hc => ?_) (fun hc => ?_)
  · replace h := z_ip hc h
    exact G_sub (lv' := [(1, .int l1), (2, .int l2)]) [1, 2] rfl ((kx _ (Option.some.inj h).symm).1 _ rfl)
  · replace h := z_in hc h
    refine G_aload_n (pc' := 15) C dX9_bitsOfFormula_14 0 rfl rfl ?_
    refine G_get (pc' := 18) (k := 3) C fi_X9 dX9_bitsOfFormula_15 tw_fl_X9_24 rfl (by decide) (CB_rd 0 rfl) rfl rfl ?_
    refine G_iload_n (pc' := 19) C dX9_bitsOfFormula_18 3 rfl rfl ?_
    replace h := ob h
    obtain ⟨v1, hv1, h⟩ := h
    refine G_ialdV (pc' := 20) C dX9_bitsOfFormula_19 (CB_rd 4 rfl) hv1 rfl ?_
    refine G_istore (pc' := 22) C dX9_bitsOfFormula_20 [(4, .int v1), (0, .ref o), (1, .int l1), (2, .int l2), (3, .int l3)] (by decide) rfl rfl ?_
    refine G_iload (pc' := 24) C dX9_bitsOfFormula_22 0 rfl rfl ?_
    refine G_if_lt (tgt := 56) (pc' := 27) C dX9_bitsOfFormula_24 (by decide) rfl (fun hc => ?_) (fun hc => ?_)
    · replace h := z_ip hc h
      exact G_sub (lv' := [(0, .ref o), (1, .int l1), (2, .int l2), (3, .int l3), (4, .int v1)]) [1, 2, 3, 4, 0] rfl (J56 l1 l2 l3 v1 h)
    · replace h := z_in hc h
      refine G_iload (pc' := 29) C dX9_bitsOfFormula_27 0 rfl rfl ?_
      refine G_bipush (pc' := 31) (v := (8 : Int32)) C dX9_bitsOfFormula_29 (by decide) rfl ?_
      refine G_icmp_ge (tgt := 56) (pc' := 34) C dX9_bitsOfFormula_31 (by decide) rfl (fun hc => ?_) (fun hc => ?_)
      · replace h := z_ip hc h
        exact G_sub (lv' := [(0, .ref o), (1, .int l1), (2, .int l2), (3, .int l3), (4, .int v1)]) [1, 2, 3, 4, 0] rfl (J56 l1 l2 l3 v1 h)
      · replace h := z_in hc h
        refine G_iload_n (pc' := 35) C dX9_bitsOfFormula_34 2 rfl rfl ?_
        refine G_iload (pc' := 37) C dX9_bitsOfFormula_35 0 rfl rfl ?_
        refine G_ishr (pc' := 38) C dX9_bitsOfFormula_37 rfl ?_
        refine G_iconst (pc' := 39) (v := (1 : Int32)) C dX9_bitsOfFormula_38 (by decide) rfl ?_
        refine G_iand (pc' := 40) C dX9_bitsOfFormula_39 rfl ?_
        refine G_if_ne (tgt := 56) (pc' := 43) C dX9_bitsOfFormula_40 (by decide) rfl (fun hc => ?_) (fun hc => ?_)
        · replace h := z_in hc h
          exact G_sub (lv' := [(0, .ref o), (1, .int l1), (2, .int l2), (3, .int l3), (4, .int v1)]) [1, 2, 3, 4, 0] rfl (J56 l1 l2 l3 v1 h)
        · replace h := z_ip hc h
          refine G_iload_n (pc' := 44) C dX9_bitsOfFormula_43 2 rfl rfl ?_
          refine G_iconst (pc' := 45) (v := (1 : Int32)) C dX9_bitsOfFormula_44 (by decide) rfl ?_
          refine G_iload (pc' := 47) C dX9_bitsOfFormula_45 0 rfl rfl ?_
          refine G_ishl (pc' := 48) C dX9_bitsOfFormula_47 rfl ?_
          refine G_ior (pc' := 49) C dX9_bitsOfFormula_48 rfl ?_
          refine G_istore_n (pc' := 50) C dX9_bitsOfFormula_49 [(1, .int (l1 ||| ((1 : Int32) <<< (v1 &&& 31)))), (4, .int v1), (0, .ref o), (2, .int l2), (3, .int l3)] (by decide) rfl rfl ?_
          refine G_iinc (pc' := 53) C dX9_bitsOfFormula_50 3 rfl rfl [(2, .int (l2 + (1 : Int32))), (1, .int (l1 ||| ((1 : Int32) <<< (v1 &&& 31)))), (4, .int v1), (0, .ref o), (3, .int l3)] (by decide) rfl rfl ?_
          refine G_goto (tgt := 96) C dX9_bitsOfFormula_53 (by decide) ?_
          exact G_sub (lv' := [(0, .ref o), (1, .int (l1 ||| ((1 : Int32) <<< (v1 &&& 31)))), (2, .int (l2 + (1 : Int32))), (3, .int l3)]) [3, 1, 0, 4] rfl (J96 (l1 ||| ((1 : Int32) <<< (v1 &&& 31))) (l2 + (1 : Int32)) l3 h)
set_option maxHeartbeats 4000000 in
set_option maxRecDepth 100000 in
theorem tX9_bitsOfFormula (κ : KK) (l : Launch) (o : Nat) (z : CS) (q : Int32) (h : fX9_bitsOfFormula o z = some q) : MM κ l yX9_bitsOfFormula cX9_bitsOfFormula 5 (some .int) rmX9_bitsOfFormula (CA o) [.ref o] (CB κ o z) (some (Value.int q)) (CB κ o z) := by
  refine MM.of (by decide +kernel) (Nat.le_of_ble_eq_true rfl) ?_
  intro p e s m below meth c C hnm
  have J122 : fX9_bitsOfFormula_J122 o z = some q → GC κ p l e s m ([.ref o] : List Value).toArray below meth c rmX9_bitsOfFormula 5 o (some (Value.int q)) (CB κ o z) 0 0 z 122 [] [] := by
    intro  h
    unfold fX9_bitsOfFormula_J122 at h
    refine G_bipush (pc' := 124) (v := (-2 : Int32)) C dX9_bitsOfFormula_122 (by decide) rfl ?_
    obtain rfl := Option.some.inj h
    exact G_iret C dX9_bitsOfFormula_124 (fun _ h => h)
  unfold fX9_bitsOfFormula at h
  refine G_sub (lv' := [(0, .ref o)]) [0] rfl ?_
  refine G_iconst (pc' := 1) (v := (0 : Int32)) C dX9_bitsOfFormula_0 (by decide) rfl ?_
  refine G_istore_n (pc' := 2) C dX9_bitsOfFormula_1 [(1, .int (0 : Int32)), (0, .ref o)] (by decide) rfl rfl ?_
  refine G_iconst (pc' := 3) (v := (0 : Int32)) C dX9_bitsOfFormula_2 (by decide) rfl ?_
  refine G_istore_n (pc' := 4) C dX9_bitsOfFormula_3 [(2, .int (0 : Int32)), (1, .int (0 : Int32)), (0, .ref o)] (by decide) rfl rfl ?_
  refine G_iconst (pc' := 5) (v := (0 : Int32)) C dX9_bitsOfFormula_4 (by decide) rfl ?_
  refine G_istore_n (pc' := 6) C dX9_bitsOfFormula_5 [(3, .int (0 : Int32)), (2, .int (0 : Int32)), (1, .int (0 : Int32)), (0, .ref o)] (by decide) rfl rfl ?_
  replace h := ob h
  obtain ⟨e2, hle2, h⟩ := h
  refine G_sub (lv' := [(0, .ref o), (1, .int (0 : Int32)), (2, .int (0 : Int32)), (3, .int (0 : Int32))]) [3, 2, 1, 0] rfl ?_
  refine lpN_ind (body := fun u => fX9_bitsOfFormula_L6 o z u.1 u.2.1 u.2.2) (P := fun u => GC κ p l e s m ([.ref o] : List Value).toArray below meth c rmX9_bitsOfFormula 5 o (some (Value.int q)) (CB κ o z) 0 0 z 6 [(0, .ref o), (1, .int u.1), (2, .int u.2.1), (3, .int u.2.2)] []) (X := fun w => (∀ x, w = .inl x → GC κ p l e s m ([.ref o] : List Value).toArray below meth c rmX9_bitsOfFormula 5 o (some (Value.int q)) (CB κ o z) 0 0 z 102 [(1, .int x.1), (2, .int x.2)] []) ∧ (∀ rt, w = .inr rt → (some (Value.int q)) = (some (Value.int rt)) ∧ (CB κ o z) = (CB κ o z))) (fun u y hb kc kx => tX9_bitsOfFormula_L6 C hb kc kx) _ _ _ hle2 ?_
  refine ⟨fun x3 hxx3 => ?_, fun rt hrt => ?_⟩
  · subst hxx3
    replace h := z_sl h
    refine G_iload_n (pc' := 103) C dX9_bitsOfFormula_102 1 rfl rfl ?_
    refine G_iconst (pc' := 104) (v := (1 : Int32)) C dX9_bitsOfFormula_103 (by decide) rfl ?_
    refine G_icmp_ne (tgt := 122) (pc' := 107) C dX9_bitsOfFormula_104 (by decide) rfl (fun hc => ?_) (fun hc => ?_)
    · replace h := z_in hc h
      exact G_sub (lv' := []) [] rfl (J122  h)
    · replace h := z_ip hc h
      refine G_iload_n (pc' := 108) C dX9_bitsOfFormula_107 0 rfl rfl ?_
      refine G_iload_n (pc' := 109) C dX9_bitsOfFormula_108 0 rfl rfl ?_
      refine G_iconst (pc' := 110) (v := (1 : Int32)) C dX9_bitsOfFormula_109 (by decide) rfl ?_
      refine G_iadd (pc' := 111) C dX9_bitsOfFormula_110 rfl ?_
      refine G_iand (pc' := 112) C dX9_bitsOfFormula_111 rfl ?_
      refine G_if_ne (tgt := 122) (pc' := 115) C dX9_bitsOfFormula_112 (by decide) rfl (fun hc => ?_) (fun hc => ?_)
      · replace h := z_in hc h
        exact G_sub (lv' := []) [] rfl (J122  h)
      · replace h := z_ip hc h
        refine G_iload_n (pc' := 116) C dX9_bitsOfFormula_115 0 rfl rfl ?_
        replace h := ob h
        obtain ⟨q4, hq4, h⟩ := h
        refine G_cS0 (pc' := 119) C dX9_bitsOfFormula_116 (tJ6_bitCount_0f7a4 κ l (CA o) (CB κ o z) x3.1 q4 hq4) (wS tw_ml_X9_171 tw_st_J6_bitCount_0f7a4 tw_co_J6_bitCount_0f7a4 tw_in_J6) yd_J6_bitCount_0f7a4 rfl rfl rfl (by decide) rfl (Nat.le_of_ble_eq_true rfl) rfl rfl ?_
        refine G_goto (tgt := 124) C dX9_bitsOfFormula_119 (by decide) ?_
        obtain rfl := Option.some.inj h
        exact G_iret C dX9_bitsOfFormula_124 (fun _ h => h)
  · subst hrt
    replace h := z_sr h
    obtain rfl := Option.some.inj h
    exact ⟨rfl, rfl⟩
