theorem dX9_findingOfTold_0 : decode cX9_findingOfTold 0 = .ok (.aload_n 0, 1) := by decide +kernel
theorem dX9_findingOfTold_1 : decode cX9_findingOfTold 1 = .ok (.iload_n 1, 1) := by decide +kernel
theorem dX9_findingOfTold_2 : decode cX9_findingOfTold 2 = .ok (.invokevirtual 145, 3) := by decide +kernel
theorem dX9_findingOfTold_5 : decode cX9_findingOfTold 5 = .ok (.istore_n 2, 1) := by decide +kernel
theorem dX9_findingOfTold_6 : decode cX9_findingOfTold 6 = .ok (.iload_n 2, 1) := by decide +kernel
theorem dX9_findingOfTold_7 : decode cX9_findingOfTold 7 = .ok (.ifCond .eq 5, 3) := by decide +kernel
theorem dX9_findingOfTold_10 : decode cX9_findingOfTold 10 = .ok (.iload_n 2, 1) := by decide +kernel
theorem dX9_findingOfTold_11 : decode cX9_findingOfTold 11 = .ok (.ireturn, 1) := by decide +kernel
theorem dX9_findingOfTold_12 : decode cX9_findingOfTold 12 = .ok (.aload_n 0, 1) := by decide +kernel
theorem dX9_findingOfTold_13 : decode cX9_findingOfTold 13 = .ok (.getfield 17, 3) := by decide +kernel
theorem dX9_findingOfTold_16 : decode cX9_findingOfTold 16 = .ok (.iload_n 1, 1) := by decide +kernel
theorem dX9_findingOfTold_17 : decode cX9_findingOfTold 17 = .ok (.aaload, 1) := by decide +kernel
theorem dX9_findingOfTold_18 : decode cX9_findingOfTold 18 = .ok (.invokevirtual 195, 3) := by decide +kernel
theorem dX9_findingOfTold_21 : decode cX9_findingOfTold 21 = .ok (.ifCond .eq 7, 3) := by decide +kernel
theorem dX9_findingOfTold_24 : decode cX9_findingOfTold 24 = .ok (.iconst 0, 1) := by decide +kernel
theorem dX9_findingOfTold_25 : decode cX9_findingOfTold 25 = .ok (.goto 5, 3) := by decide +kernel
theorem dX9_findingOfTold_28 : decode cX9_findingOfTold 28 = .ok (.bipush (-4), 2) := by decide +kernel
theorem dX9_findingOfTold_30 : decode cX9_findingOfTold 30 = .ok (.ireturn, 1) := by decide +kernel
theorem yd_X9_findingOfTold : yX9_findingOfTold.cls = RX9 ∧ yX9_findingOfTold.cls ≠ "java/lang/invoke/MethodHandle" ∧ yX9_findingOfTold.cls ≠ "java/lang/invoke/VarHandle" ∧ (parseMethodDescriptor yX9_findingOfTold.desc).map (fun d => d.parameters.length) = some 1 := by decide +kernel
abbrev rmX9_findingOfTold : Room := { frames := 2, cells := 0, slots := 0, locals := 42 }
def fX9_findingOfTold (o : Nat) (z : CS) (a1 : Int32) : Option (Int32 × CS) :=
  (fX9_findingOfTask o z a1).bind fun q1 =>
  if q1.1 = 0 then
    (aQ 8 (q1.2.2.2.1 1) a1).bind fun v2 =>
    (v2).bind fun ad3 =>
    (dT q1.2 ad3).bind fun t5 =>
    (fX8_isTold o q1.2 ad3).bind fun q4 =>
    if q4 = 0 then
      some ((-4 : Int32), q1.2)
    else
      some ((0 : Int32), q1.2)
  else
    some (q1.1, q1.2)
set_option maxHeartbeats 4000000 in
set_option maxRecDepth 100000 in
theorem tX9_findingOfTold (κ : KK) (l : Launch) (o : Nat) (z : CS) (a1 : Int32) (q : Int32 × CS) (h : fX9_findingOfTold o z a1 = some q) : MM κ l yX9_findingOfTold cX9_findingOfTold 3 (some .int) rmX9_findingOfTold (CA o) [.ref o, .int a1] (CB κ o z) (some (Value.int q.1)) (CB κ o q.2) := by
  refine MM.of (by decide +kernel) (Nat.le_of_ble_eq_true rfl) ?_
  intro p e s m below meth c C hnm
  unfold fX9_findingOfTold at h
  refine G_sub (lv' := [(0, .ref o), (1, .int a1)]) [0, 1] rfl ?_
  refine G_aload_n (pc' := 1) C dX9_findingOfTold_0 0 rfl rfl ?_
  refine G_iload_n (pc' := 2) C dX9_findingOfTold_1 1 rfl rfl ?_
  replace h := ob h
  obtain ⟨q1, hq1, h⟩ := h
  refine G_cV0 (pc' := 5) C dX9_findingOfTold_2 (tX9_findingOfTask κ l o z a1 q1 hq1) (wV tw_ml_X9_145 tw_im_X9_findingOfTask tw_se_X9_X9_findingOfTask tw_in_X9 tw_co_X9_findingOfTask) yd_X9_findingOfTask rfl fi_X9 (CB_rd 0 rfl) rfl rfl (by decide) rfl (Nat.le_of_ble_eq_true rfl) rfl rfl ?_
  refine G_istore_n (pc' := 6) C dX9_findingOfTold_5 [(2, .int q1.1), (0, .ref o), (1, .int a1)] (by decide) rfl rfl ?_
  refine G_iload_n (pc' := 7) C dX9_findingOfTold_6 0 rfl rfl ?_
  refine G_if_eq (tgt := 12) (pc' := 10) C dX9_findingOfTold_7 (by decide) rfl (fun hc => ?_) (fun hc => ?_)
  · replace h := z_ip hc h
    refine G_aload_n (pc' := 13) C dX9_findingOfTold_12 1 rfl rfl ?_
    refine G_get (pc' := 16) (k := 1) C fi_X9 dX9_findingOfTold_13 tw_fl_X9_17 rfl (by decide) (CB_rd 0 rfl) rfl rfl ?_
    refine G_iload_n (pc' := 17) C dX9_findingOfTold_16 2 rfl rfl ?_
    replace h := ob h
    obtain ⟨v2, hv2, h⟩ := h
    refine G_aald5V (pc' := 18) C dX9_findingOfTold_17 (CB_rd 2 rfl) hv2 rfl ?_
    replace h := ob h
    obtain ⟨ad3, had3, h⟩ := h
    subst had3
    replace h := ob h
    obtain ⟨t5, ht5, h⟩ := h
    replace h := ob h
    obtain ⟨q4, hq4, h⟩ := h
    refine G_cV0 (pc' := 21) C dX9_findingOfTold_18 (tX8_isTold κ l o q1.2 ad3 q4 hq4) (wV tw_ml_X9_195 tw_im_X8_isTold tw_se_X8_X8_isTold tw_in_X8 tw_co_X8_isTold) yd_X8_isTold rfl fi_X8 (CB_T ht5) rfl rfl (by decide) rfl (Nat.le_of_ble_eq_true rfl) rfl rfl ?_
    refine G_if_eq (tgt := 28) (pc' := 24) C dX9_findingOfTold_21 (by decide) rfl (fun hc => ?_) (fun hc => ?_)
    · replace h := z_ip hc h
      refine G_bipush (pc' := 30) (v := (-4 : Int32)) C dX9_findingOfTold_28 (by decide) rfl ?_
      refine G_widen (k := rmX9_findingOfTold.cells) (n := rmX9_findingOfTold.slots) (by decide) (by decide) ?_
      obtain rfl := Option.some.inj h
      exact G_iret C dX9_findingOfTold_30 (fun _ h => h)
    · replace h := z_in hc h
      refine G_iconst (pc' := 25) (v := (0 : Int32)) C dX9_findingOfTold_24 (by decide) rfl ?_
      refine G_goto (tgt := 30) C dX9_findingOfTold_25 (by decide) ?_
      refine G_widen (k := rmX9_findingOfTold.cells) (n := rmX9_findingOfTold.slots) (by decide) (by decide) ?_
      obtain rfl := Option.some.inj h
      exact G_iret C dX9_findingOfTold_30 (fun _ h => h)
  · replace h := z_in hc h
    refine G_iload_n (pc' := 11) C dX9_findingOfTold_10 0 rfl rfl ?_
    refine G_widen (k := rmX9_findingOfTold.cells) (n := rmX9_findingOfTold.slots) (by decide) (by decide) ?_
    obtain rfl := Option.some.inj h
    exact G_iret C dX9_findingOfTold_11 (fun _ h => h)
theorem dX9_at_0 : decode cX9_at 0 = .ok (.iload_n 2, 1) := by decide +kernel
theorem dX9_at_1 : decode cX9_at 1 = .ok (.ifCond .lt 8, 3) := by decide +kernel
theorem dX9_at_4 : decode cX9_at 4 = .ok (.iload_n 2, 1) := by decide +kernel
theorem dX9_at_5 : decode cX9_at 5 = .ok (.iconst 2, 1) := by decide +kernel
theorem dX9_at_6 : decode cX9_at 6 = .ok (.if_icmp .le 8, 3) := by decide +kernel
theorem dX9_at_9 : decode cX9_at 9 = .ok (.bipush (-2), 2) := by decide +kernel
theorem dX9_at_11 : decode cX9_at 11 = .ok (.goto 8, 3) := by decide +kernel
theorem dX9_at_14 : decode cX9_at 14 = .ok (.aload_n 0, 1) := by decide +kernel
theorem dX9_at_15 : decode cX9_at 15 = .ok (.iload_n 1, 1) := by decide +kernel
theorem dX9_at_16 : decode cX9_at 16 = .ok (.invokevirtual 261, 3) := by decide +kernel
theorem dX9_at_19 : decode cX9_at 19 = .ok (.istore 4, 2) := by decide +kernel
theorem dX9_at_21 : decode cX9_at 21 = .ok (.iload 4, 2) := by decide +kernel
theorem dX9_at_23 : decode cX9_at 23 = .ok (.ifCond .eq 6, 3) := by decide +kernel
theorem dX9_at_26 : decode cX9_at 26 = .ok (.iload 4, 2) := by decide +kernel
theorem dX9_at_28 : decode cX9_at 28 = .ok (.ireturn, 1) := by decide +kernel
theorem dX9_at_29 : decode cX9_at 29 = .ok (.aload_n 0, 1) := by decide +kernel
theorem dX9_at_30 : decode cX9_at 30 = .ok (.getfield 17, 3) := by decide +kernel
theorem dX9_at_33 : decode cX9_at 33 = .ok (.iload_n 1, 1) := by decide +kernel
theorem dX9_at_34 : decode cX9_at 34 = .ok (.aaload, 1) := by decide +kernel
theorem dX9_at_35 : decode cX9_at 35 = .ok (.astore 5, 2) := by decide +kernel
theorem dX9_at_37 : decode cX9_at 37 = .ok (.aload 5, 2) := by decide +kernel
theorem dX9_at_39 : decode cX9_at 39 = .ok (.iload_n 3, 1) := by decide +kernel
theorem dX9_at_40 : decode cX9_at 40 = .ok (.invokevirtual 176, 3) := by decide +kernel
theorem dX9_at_43 : decode cX9_at 43 = .ok (.ifCond .eq 17, 3) := by decide +kernel
theorem dX9_at_46 : decode cX9_at 46 = .ok (.aload_n 0, 1) := by decide +kernel
theorem dX9_at_47 : decode cX9_at 47 = .ok (.getfield 50, 3) := by decide +kernel
theorem dX9_at_50 : decode cX9_at 50 = .ok (.aload 5, 2) := by decide +kernel
theorem dX9_at_52 : decode cX9_at 52 = .ok (.iload_n 2, 1) := by decide +kernel
theorem dX9_at_53 : decode cX9_at 53 = .ok (.iload_n 3, 1) := by decide +kernel
theorem dX9_at_54 : decode cX9_at 54 = .ok (.invokevirtual 264, 3) := by decide +kernel
theorem dX9_at_57 : decode cX9_at 57 = .ok (.goto 9, 3) := by decide +kernel
theorem dX9_at_60 : decode cX9_at 60 = .ok (.aload_n 0, 1) := by decide +kernel
theorem dX9_at_61 : decode cX9_at 61 = .ok (.bipush (-11), 2) := by decide +kernel
theorem dX9_at_63 : decode cX9_at 63 = .ok (.invokevirtual 103, 3) := by decide +kernel
theorem dX9_at_66 : decode cX9_at 66 = .ok (.ireturn, 1) := by decide +kernel
theorem yd_X9_at : yX9_at.cls = RX9 ∧ yX9_at.cls ≠ "java/lang/invoke/MethodHandle" ∧ yX9_at.cls ≠ "java/lang/invoke/VarHandle" ∧ (parseMethodDescriptor yX9_at.desc).map (fun d => d.parameters.length) = some 3 := by decide +kernel
abbrev rmX9_at : Room := { frames := 3, cells := 0, slots := 0, locals := 72 }
def fX9_at_J19 (o : Nat) (z : CS) (l1 : Int32) (l2 : Int32) (l3 : Int32) (s0 : Int32) : Option (Int32 × CS) :=
  if s0 = 0 then
    (aQ 8 (z.2.2.1 1) l1).bind fun v1 =>
    (v1).bind fun ad2 =>
    (dT z ad2).bind fun t4 =>
    (fX8_hasInput o z ad2 l3).bind fun q3 =>
    if q3 = 0 then
      (fX9_counted o z (-11 : Int32)).bind fun q5 =>
      some (q5.1, q5.2)
    else
      (fX0_measure o z ad2 l2 l3).bind fun q6 =>
      some (q6.1, q6.2)
  else
    some (s0, z)
def fX9_at_J9 (o : Nat) (z : CS) (l1 : Int32) (l2 : Int32) (l3 : Int32) : Option (Int32 × CS) :=
  fX9_at_J19 o z l1 l2 l3 (-2 : Int32)
def fX9_at (o : Nat) (z : CS) (a1 : Int32) (a2 : Int32) (a3 : Int32) : Option (Int32 × CS) :=
  if a2 < 0 then
    fX9_at_J9 o z a1 a2 a3
  else
    if a2 ≤ (2 : Int32) then
      (fX9_findingOfTold o z a1).bind fun q7 =>
      fX9_at_J19 o q7.2 a1 a2 a3 q7.1
    else
      fX9_at_J9 o z a1 a2 a3
set_option maxHeartbeats 4000000 in
set_option maxRecDepth 100000 in
theorem tX9_at (κ : KK) (l : Launch) (o : Nat) (z : CS) (a1 : Int32) (a2 : Int32) (a3 : Int32) (q : Int32 × CS) (h : fX9_at o z a1 a2 a3 = some q) : MM κ l yX9_at cX9_at 6 (some .int) rmX9_at (CA o) [.ref o, .int a1, .int a2, .int a3] (CB κ o z) (some (Value.int q.1)) (CB κ o q.2) := by
  refine MM.of (by decide +kernel) (Nat.le_of_ble_eq_true rfl) ?_
  intro p e s m below meth c C hnm
  have J19 : ∀ (z : CS) (l1 : Int32) (l2 : Int32) (l3 : Int32) (s0 : Int32), fX9_at_J19 o z l1 l2 l3 s0 = some q → GC κ p l e s m ([.ref o, .int a1, .int a2, .int a3] : List Value).toArray below meth c rmX9_at 6 o (some (Value.int q.1)) (CB κ o q.2) 0 0 z 19 [(0, .ref o), (1, .int l1), (2, .int l2), (3, .int l3)] [.int s0] := by
    intro z l1 l2 l3 s0 h
    unfold fX9_at_J19 at h
    refine G_istore (pc' := 21) C dX9_at_19 [(4, .int s0), (0, .ref o), (1, .int l1), (2, .int l2), (3, .int l3)] (by decide) rfl rfl ?_
    refine G_iload (pc' := 23) C dX9_at_21 0 rfl rfl ?_
    refine G_if_eq (tgt := 29) (pc' := 26) C dX9_at_23 (by decide) rfl (fun hc => ?_) (fun hc => ?_)
    · replace h := z_ip hc h
      refine G_aload_n (pc' := 30) C dX9_at_29 1 rfl rfl ?_
      refine G_get (pc' := 33) (k := 1) C fi_X9 dX9_at_30 tw_fl_X9_17 rfl (by decide) (CB_rd 0 rfl) rfl rfl ?_
      refine G_iload_n (pc' := 34) C dX9_at_33 2 rfl rfl ?_
      replace h := ob h
      obtain ⟨v1, hv1, h⟩ := h
      refine G_aald5V (pc' := 35) C dX9_at_34 (CB_rd 2 rfl) hv1 rfl ?_
      refine G_qstore (pc' := 37) C dX9_at_35 [(5, va_rf v1), (4, .int s0), (0, .ref o), (1, .int l1), (2, .int l2), (3, .int l3)] (by decide) rfl rfl ?_
      refine G_qload (pc' := 39) C dX9_at_37 0 rfl rfl ?_
      refine G_iload_n (pc' := 40) C dX9_at_39 5 rfl rfl ?_
      replace h := ob h
      obtain ⟨ad2, had2, h⟩ := h
      subst had2
      replace h := ob h
      obtain ⟨t4, ht4, h⟩ := h
      replace h := ob h
      obtain ⟨q3, hq3, h⟩ := h
      refine G_cV0 (pc' := 43) C dX9_at_40 (tX8_hasInput κ l o z ad2 l3 q3 hq3) (wV tw_ml_X9_176 tw_im_X8_hasInput tw_se_X8_X8_hasInput tw_in_X8 tw_co_X8_hasInput) yd_X8_hasInput rfl fi_X8 (CB_T ht4) rfl rfl (by decide) rfl (Nat.le_of_ble_eq_true rfl) rfl rfl ?_
      refine G_if_eq (tgt := 60) (pc' := 46) C dX9_at_43 (by decide) rfl (fun hc => ?_) (fun hc => ?_)
      · replace h := z_ip hc h
        refine G_aload_n (pc' := 61) C dX9_at_60 2 rfl rfl ?_
        refine G_bipush (pc' := 63) (v := (-11 : Int32)) C dX9_at_61 (by decide) rfl ?_
        replace h := ob h
        obtain ⟨q5, hq5, h⟩ := h
        refine G_cV0 (pc' := 66) C dX9_at_63 (tX9_counted κ l o z (-11 : Int32) q5 hq5) (wV tw_ml_X9_103 tw_im_X9_counted tw_se_X9_X9_counted tw_in_X9 tw_co_X9_counted) yd_X9_counted rfl fi_X9 (CB_rd 0 rfl) rfl rfl (by decide) rfl (Nat.le_of_ble_eq_true rfl) rfl rfl ?_
        refine G_widen (k := rmX9_at.cells) (n := rmX9_at.slots) (by decide) (by decide) ?_
        obtain rfl := Option.some.inj h
        exact G_iret C dX9_at_66 (fun _ h => h)
      · replace h := z_in hc h
        refine G_aload_n (pc' := 47) C dX9_at_46 2 rfl rfl ?_
        refine G_get (pc' := 50) (k := 7) C fi_X9 dX9_at_47 tw_fl_X9_50 rfl (by decide) (CB_rd 0 rfl) rfl rfl ?_
        refine G_aload (pc' := 52) C dX9_at_50 0 rfl rfl ?_
        refine G_iload_n (pc' := 53) C dX9_at_52 4 rfl rfl ?_
        refine G_iload_n (pc' := 54) C dX9_at_53 5 rfl rfl ?_
        replace h := ob h
        obtain ⟨q6, hq6, h⟩ := h
        refine G_cV0 (pc' := 57) C dX9_at_54 (tX0_measure κ l o z ad2 l2 l3 q6 hq6) (wV tw_ml_X9_264 tw_im_X0_measure tw_se_X0_X0_measure tw_in_X0 tw_co_X0_measure) yd_X0_measure rfl fi_X0 (CB_rd 16 rfl) rfl rfl (by decide) rfl (Nat.le_of_ble_eq_true rfl) rfl rfl ?_
        refine G_goto (tgt := 66) C dX9_at_57 (by decide) ?_
        refine G_widen (k := rmX9_at.cells) (n := rmX9_at.slots) (by decide) (by decide) ?_
        obtain rfl := Option.some.inj h
        exact G_iret C dX9_at_66 (fun _ h => h)
    · replace h := z_in hc h
      refine G_iload (pc' := 28) C dX9_at_26 0 rfl rfl ?_
      refine G_widen (k := rmX9_at.cells) (n := rmX9_at.slots) (by decide) (by decide) ?_
      obtain rfl := Option.some.inj h
      exact G_iret C dX9_at_28 (fun _ h => h)
  have J9 : ∀ (z : CS) (l1 : Int32) (l2 : Int32) (l3 : Int32), fX9_at_J9 o z l1 l2 l3 = some q → GC κ p l e s m ([.ref o, .int a1, .int a2, .int a3] : List Value).toArray below meth c rmX9_at 6 o (some (Value.int q.1)) (CB κ o q.2) 0 0 z 9 [(0, .ref o), (1, .int l1), (2, .int l2), (3, .int l3)] [] := by
    intro z l1 l2 l3 h
    unfold fX9_at_J9 at h
    refine G_bipush (pc' := 11) (v := (-2 : Int32)) C dX9_at_9 (by decide) rfl ?_
    refine G_goto (tgt := 19) C dX9_at_11 (by decide) ?_
    exact G_sub (lv' := [(0, .ref o), (1, .int l1), (2, .int l2), (3, .int l3)]) [0, 1, 2, 3] rfl (J19 z l1 l2 l3 (-2 : Int32) h)
  unfold fX9_at at h
  refine G_sub (lv' := [(0, .ref o), (1, .int a1), (2, .int a2), (3, .int a3)]) [0, 1, 2, 3] rfl ?_
  refine G_iload_n (pc' := 1) C dX9_at_0 2 rfl rfl ?_
  refine G_if_lt (tgt := 9) (pc' := 4) C dX9_at_1 (by decide) rfl (fun hc => ?_) (fun hc => ?_)
  · replace h := z_ip hc h
    exact G_sub (lv' := [(0, .ref o), (1, .int a1), (2, .int a2), (3, .int a3)]) [0, 1, 2, 3] rfl (J9 z a1 a2 a3 h)
  · replace h := z_in hc h
    refine G_iload_n (pc' := 5) C dX9_at_4 2 rfl rfl ?_
    refine G_iconst (pc' := 6) (v := (2 : Int32)) C dX9_at_5 (by decide) rfl ?_
    refine G_icmp_le (tgt := 14) (pc' := 9) C dX9_at_6 (by decide) rfl (fun hc => ?_) (fun hc => ?_)
    · replace h := z_ip hc h
      refine G_aload_n (pc' := 15) C dX9_at_14 0 rfl rfl ?_
      refine G_iload_n (pc' := 16) C dX9_at_15 1 rfl rfl ?_
      replace h := ob h
      obtain ⟨q7, hq7, h⟩ := h
      refine G_cV0 (pc' := 19) C dX9_at_16 (tX9_findingOfTold κ l o z a1 q7 hq7) (wV tw_ml_X9_261 tw_im_X9_findingOfTold tw_se_X9_X9_findingOfTold tw_in_X9 tw_co_X9_findingOfTold) yd_X9_findingOfTold rfl fi_X9 (CB_rd 0 rfl) rfl rfl (by decide) rfl (Nat.le_of_ble_eq_true rfl) rfl rfl ?_
      exact G_sub (lv' := [(0, .ref o), (1, .int a1), (2, .int a2), (3, .int a3)]) [0, 1, 2, 3] rfl (J19 q7.2 a1 a2 a3 q7.1 h)
    · replace h := z_in hc h
      exact G_sub (lv' := [(0, .ref o), (1, .int a1), (2, .int a2), (3, .int a3)]) [0, 1, 2, 3] rfl (J9 z a1 a2 a3 h)
theorem dX9_findingOfMost_0 : decode cX9_findingOfMost 0 = .ok (.iload_n 2, 1) := by decide +kernel
theorem dX9_findingOfMost_1 : decode cX9_findingOfMost 1 = .ok (.ifCond .lt 17, 3) := by decide +kernel
theorem dX9_findingOfMost_4 : decode cX9_findingOfMost 4 = .ok (.iload_n 2, 1) := by decide +kernel
theorem dX9_findingOfMost_5 : decode cX9_findingOfMost 5 = .ok (.iconst 2, 1) := by decide +kernel
theorem dX9_findingOfMost_6 : decode cX9_findingOfMost 6 = .ok (.if_icmp .gt 12, 3) := by decide +kernel
theorem dX9_findingOfMost_9 : decode cX9_findingOfMost 9 = .ok (.iload_n 3, 1) := by decide +kernel
theorem dX9_findingOfMost_10 : decode cX9_findingOfMost 10 = .ok (.ifCond .lt 8, 3) := by decide +kernel
theorem dX9_findingOfMost_13 : decode cX9_findingOfMost 13 = .ok (.iload_n 3, 1) := by decide +kernel
theorem dX9_findingOfMost_14 : decode cX9_findingOfMost 14 = .ok (.iconst 2, 1) := by decide +kernel
theorem dX9_findingOfMost_15 : decode cX9_findingOfMost 15 = .ok (.if_icmp .le 8, 3) := by decide +kernel
theorem dX9_findingOfMost_18 : decode cX9_findingOfMost 18 = .ok (.bipush (-2), 2) := by decide +kernel
theorem dX9_findingOfMost_20 : decode cX9_findingOfMost 20 = .ok (.goto 8, 3) := by decide +kernel
theorem dX9_findingOfMost_23 : decode cX9_findingOfMost 23 = .ok (.aload_n 0, 1) := by decide +kernel
theorem dX9_findingOfMost_24 : decode cX9_findingOfMost 24 = .ok (.iload_n 1, 1) := by decide +kernel
theorem dX9_findingOfMost_25 : decode cX9_findingOfMost 25 = .ok (.invokevirtual 261, 3) := by decide +kernel
theorem dX9_findingOfMost_28 : decode cX9_findingOfMost 28 = .ok (.ireturn, 1) := by decide +kernel
theorem yd_X9_findingOfMost : yX9_findingOfMost.cls = RX9 ∧ yX9_findingOfMost.cls ≠ "java/lang/invoke/MethodHandle" ∧ yX9_findingOfMost.cls ≠ "java/lang/invoke/VarHandle" ∧ (parseMethodDescriptor yX9_findingOfMost.desc).map (fun d => d.parameters.length) = some 3 := by decide +kernel
abbrev rmX9_findingOfMost : Room := { frames := 3, cells := 0, slots := 0, locals := 64 }
def fX9_findingOfMost_J18 (o : Nat) (z : CS) : Option (Int32 × CS) :=
  some ((-2 : Int32), z)
def fX9_findingOfMost (o : Nat) (z : CS) (a1 : Int32) (a2 : Int32) (a3 : Int32) : Option (Int32 × CS) :=
  if a2 < 0 then
    fX9_findingOfMost_J18 o z
  else
    if (2 : Int32) < a2 then
      fX9_findingOfMost_J18 o z
    else
      if a3 < 0 then
        fX9_findingOfMost_J18 o z
      else
        if a3 ≤ (2 : Int32) then
          (fX9_findingOfTold o z a1).bind fun q1 =>
          some (q1.1, q1.2)
        else
          fX9_findingOfMost_J18 o z
set_option maxHeartbeats 4000000 in
set_option maxRecDepth 100000 in
theorem tX9_findingOfMost (κ : KK) (l : Launch) (o : Nat) (z : CS) (a1 : Int32) (a2 : Int32) (a3 : Int32) (q : Int32 × CS) (h : fX9_findingOfMost o z a1 a2 a3 = some q) : MM κ l yX9_findingOfMost cX9_findingOfMost 4 (some .int) rmX9_findingOfMost (CA o) [.ref o, .int a1, .int a2, .int a3] (CB κ o z) (some (Value.int q.1)) (CB κ o q.2) := by
  refine MM.of (by decide +kernel) (Nat.le_of_ble_eq_true rfl) ?_
  intro p e s m below meth c C hnm
  have J18 : ∀ (z : CS), fX9_findingOfMost_J18 o z = some q → GC κ p l e s m ([.ref o, .int a1, .int a2, .int a3] : List Value).toArray below meth c rmX9_findingOfMost 4 o (some (Value.int q.1)) (CB κ o q.2) 0 0 z 18 [] [] := by
    intro z h
    unfold fX9_findingOfMost_J18 at h
    refine G_bipush (pc' := 20) (v := (-2 : Int32)) C dX9_findingOfMost_18 (by decide) rfl ?_
    refine G_goto (tgt := 28) C dX9_findingOfMost_20 (by decide) ?_
    refine G_widen (k := rmX9_findingOfMost.cells) (n := rmX9_findingOfMost.slots) (by decide) (by decide) ?_
    obtain rfl := Option.some.inj h
    exact G_iret C dX9_findingOfMost_28 (fun _ h => h)
  unfold fX9_findingOfMost at h
  refine G_sub (lv' := [(0, .ref o), (1, .int a1), (2, .int a2), (3, .int a3)]) [0, 1, 2, 3] rfl ?_
  refine G_iload_n (pc' := 1) C dX9_findingOfMost_0 2 rfl rfl ?_
  refine G_if_lt (tgt := 18) (pc' := 4) C dX9_findingOfMost_1 (by decide) rfl (fun hc => ?_) (fun hc => ?_)
  · replace h := z_ip hc h
    exact G_sub (lv' := []) [] rfl (J18 z h)
  · replace h := z_in hc h
    refine G_iload_n (pc' := 5) C dX9_findingOfMost_4 2 rfl rfl ?_
    refine G_iconst (pc' := 6) (v := (2 : Int32)) C dX9_findingOfMost_5 (by decide) rfl ?_
    refine G_icmp_gt (tgt := 18) (pc' := 9) C dX9_findingOfMost_6 (by decide) rfl (fun hc => ?_) (fun hc => ?_)
    · replace h := z_ip hc h
      exact G_sub (lv' := []) [] rfl (J18 z h)
    · replace h := z_in hc h
      refine G_iload_n (pc' := 10) C dX9_findingOfMost_9 3 rfl rfl ?_
      refine G_if_lt (tgt := 18) (pc' := 13) C dX9_findingOfMost_10 (by decide) rfl (fun hc => ?_) (fun hc => ?_)
      · replace h := z_ip hc h
        exact G_sub (lv' := []) [] rfl (J18 z h)
      · replace h := z_in hc h
        refine G_iload_n (pc' := 14) C dX9_findingOfMost_13 3 rfl rfl ?_
        refine G_iconst (pc' := 15) (v := (2 : Int32)) C dX9_findingOfMost_14 (by decide) rfl ?_
        refine G_icmp_le (tgt := 23) (pc' := 18) C dX9_findingOfMost_15 (by decide) rfl (fun hc => ?_) (fun hc => ?_)
        · replace h := z_ip hc h
          refine G_aload_n (pc' := 24) C dX9_findingOfMost_23 0 rfl rfl ?_
          refine G_iload_n (pc' := 25) C dX9_findingOfMost_24 1 rfl rfl ?_
          replace h := ob h
          obtain ⟨q1, hq1, h⟩ := h
          refine G_cV0 (pc' := 28) C dX9_findingOfMost_25 (tX9_findingOfTold κ l o z a1 q1 hq1) (wV tw_ml_X9_261 tw_im_X9_findingOfTold tw_se_X9_X9_findingOfTold tw_in_X9 tw_co_X9_findingOfTold) yd_X9_findingOfTold rfl fi_X9 (CB_rd 0 rfl) rfl rfl (by decide) rfl (Nat.le_of_ble_eq_true rfl) rfl rfl ?_
          refine G_widen (k := rmX9_findingOfMost.cells) (n := rmX9_findingOfMost.slots) (by decide) (by decide) ?_
          obtain rfl := Option.some.inj h
          exact G_iret C dX9_findingOfMost_28 (fun _ h => h)
        · replace h := z_in hc h
          exact G_sub (lv' := []) [] rfl (J18 z h)
theorem dX0_leastGreatest_0 : decode cX0_leastGreatest 0 = .ok (.iconst (-1), 1) := by decide +kernel
theorem dX0_leastGreatest_1 : decode cX0_leastGreatest 1 = .ok (.istore 4, 2) := by decide +kernel
theorem dX0_leastGreatest_3 : decode cX0_leastGreatest 3 = .ok (.iconst (-1), 1) := by decide +kernel
theorem dX0_leastGreatest_4 : decode cX0_leastGreatest 4 = .ok (.istore 5, 2) := by decide +kernel
theorem dX0_leastGreatest_6 : decode cX0_leastGreatest 6 = .ok (.iconst 0, 1) := by decide +kernel
theorem dX0_leastGreatest_7 : decode cX0_leastGreatest 7 = .ok (.istore 6, 2) := by decide +kernel
theorem dX0_leastGreatest_9 : decode cX0_leastGreatest 9 = .ok (.iload 6, 2) := by decide +kernel
theorem dX0_leastGreatest_11 : decode cX0_leastGreatest 11 = .ok (.aload_n 1, 1) := by decide +kernel
theorem dX0_leastGreatest_12 : decode cX0_leastGreatest 12 = .ok (.getfield 37, 3) := by decide +kernel
theorem dX0_leastGreatest_15 : decode cX0_leastGreatest 15 = .ok (.arraylength, 1) := by decide +kernel
theorem dX0_leastGreatest_16 : decode cX0_leastGreatest 16 = .ok (.if_icmp .ge 62, 3) := by decide +kernel
theorem dX0_leastGreatest_19 : decode cX0_leastGreatest 19 = .ok (.iload 5, 2) := by decide +kernel
theorem dX0_leastGreatest_21 : decode cX0_leastGreatest 21 = .ok (.aload_n 1, 1) := by decide +kernel
theorem dX0_leastGreatest_22 : decode cX0_leastGreatest 22 = .ok (.getfield 43, 3) := by decide +kernel
theorem dX0_leastGreatest_25 : decode cX0_leastGreatest 25 = .ok (.if_icmp .ge 53, 3) := by decide +kernel
theorem dX0_leastGreatest_28 : decode cX0_leastGreatest 28 = .ok (.iload_n 3, 1) := by decide +kernel
theorem dX0_leastGreatest_29 : decode cX0_leastGreatest 29 = .ok (.iconst 2, 1) := by decide +kernel
theorem dX0_leastGreatest_30 : decode cX0_leastGreatest 30 = .ok (.if_icmp .eq 17, 3) := by decide +kernel
theorem dX0_leastGreatest_33 : decode cX0_leastGreatest 33 = .ok (.aload_n 1, 1) := by decide +kernel
theorem dX0_leastGreatest_34 : decode cX0_leastGreatest 34 = .ok (.getfield 37, 3) := by decide +kernel
theorem dX0_leastGreatest_37 : decode cX0_leastGreatest 37 = .ok (.iload 6, 2) := by decide +kernel
theorem dX0_leastGreatest_39 : decode cX0_leastGreatest 39 = .ok (.baload, 1) := by decide +kernel
theorem dX0_leastGreatest_40 : decode cX0_leastGreatest 40 = .ok (.iload_n 3, 1) := by decide +kernel
theorem dX0_leastGreatest_41 : decode cX0_leastGreatest 41 = .ok (.if_icmp .eq 6, 3) := by decide +kernel
theorem dX0_leastGreatest_44 : decode cX0_leastGreatest 44 = .ok (.goto 28, 3) := by decide +kernel
theorem dX0_leastGreatest_47 : decode cX0_leastGreatest 47 = .ok (.aload_n 0, 1) := by decide +kernel
theorem dX0_leastGreatest_48 : decode cX0_leastGreatest 48 = .ok (.aload_n 1, 1) := by decide +kernel
theorem dX0_leastGreatest_49 : decode cX0_leastGreatest 49 = .ok (.iload_n 2, 1) := by decide +kernel
theorem dX0_leastGreatest_50 : decode cX0_leastGreatest 50 = .ok (.iload 6, 2) := by decide +kernel
theorem dX0_leastGreatest_52 : decode cX0_leastGreatest 52 = .ok (.invokevirtual 47, 3) := by decide +kernel
theorem dX0_leastGreatest_55 : decode cX0_leastGreatest 55 = .ok (.istore 7, 2) := by decide +kernel
theorem dX0_leastGreatest_57 : decode cX0_leastGreatest 57 = .ok (.iload 7, 2) := by decide +kernel
theorem dX0_leastGreatest_59 : decode cX0_leastGreatest 59 = .ok (.iload 5, 2) := by decide +kernel
theorem dX0_leastGreatest_61 : decode cX0_leastGreatest 61 = .ok (.if_icmp .le 11, 3) := by decide +kernel
theorem dX0_leastGreatest_64 : decode cX0_leastGreatest 64 = .ok (.iload 6, 2) := by decide +kernel
theorem dX0_leastGreatest_66 : decode cX0_leastGreatest 66 = .ok (.istore 4, 2) := by decide +kernel
theorem dX0_leastGreatest_68 : decode cX0_leastGreatest 68 = .ok (.iload 7, 2) := by decide +kernel
theorem dX0_leastGreatest_70 : decode cX0_leastGreatest 70 = .ok (.istore 5, 2) := by decide +kernel
theorem dX0_leastGreatest_72 : decode cX0_leastGreatest 72 = .ok (.iinc 6 1, 3) := by decide +kernel
theorem dX0_leastGreatest_75 : decode cX0_leastGreatest 75 = .ok (.goto (-66), 3) := by decide +kernel
theorem dX0_leastGreatest_78 : decode cX0_leastGreatest 78 = .ok (.iload 4, 2) := by decide +kernel
theorem dX0_leastGreatest_80 : decode cX0_leastGreatest 80 = .ok (.ireturn, 1) := by decide +kernel
theorem yd_X0_leastGreatest : yX0_leastGreatest.cls = RX0 ∧ yX0_leastGreatest.cls ≠ "java/lang/invoke/MethodHandle" ∧ yX0_leastGreatest.cls ≠ "java/lang/invoke/VarHandle" ∧ (parseMethodDescriptor yX0_leastGreatest.desc).map (fun d => d.parameters.length) = some 3 := by decide +kernel
abbrev rmX0_leastGreatest : Room := { frames := 3, cells := 0, slots := 0, locals := 72 }
def fX0_leastGreatest_L9_J72 (o : Nat) (z : CS) (l1 : Nat) (l2 : Int32) (l3 : Int32) (l4 : Int32) (l5 : Int32) (l6 : Int32) : Option ((Int32 × Int32 × Int32 × CS) ⊕ (Int32 × CS)) :=
  some (.inl (l4, l5, (l6 + (1 : Int32)), z))
def fX0_leastGreatest_L9_J47 (o : Nat) (z : CS) (l1 : Nat) (l2 : Int32) (l3 : Int32) (l4 : Int32) (l5 : Int32) (l6 : Int32) : Option ((Int32 × Int32 × Int32 × CS) ⊕ (Int32 × CS)) :=
  (fX0_measure o z l1 l2 l6).bind fun q5 =>
  if q5.1 ≤ l5 then
    fX0_leastGreatest_L9_J72 o q5.2 l1 l2 l3 l4 l5 l6
  else
    fX0_leastGreatest_L9_J72 o q5.2 l1 l2 l3 l6 q5.1 l6
def fX0_leastGreatest_L9 (o : Nat) (z : CS) (l1 : Nat) (l2 : Int32) (l3 : Int32) (l4 : Int32) (l5 : Int32) (l6 : Int32) : Option ((Int32 × Int32 × Int32 × CS) ⊕ (Int32 × CS)) :=
  (dT z l1).bind fun t1 =>
  (t1.2.2.2).bind fun ad2 =>
  (lnB z ad2).bind fun v3 =>
  if v3 ≤ l6 then
    some (.inr (l4, z))
  else
    (dT z l1).bind fun t4 =>
    if t4.2.1 ≤ l5 then
      some (.inr (l4, z))
    else
      if l3 = (2 : Int32) then
        fX0_leastGreatest_L9_J47 o z l1 l2 l3 l4 l5 l6
      else
        (dT z l1).bind fun t6 =>
        (t6.2.2.2).bind fun ad7 =>
        (rdB z ad7 l6).bind fun v8 =>
        if v8 = l3 then
          fX0_leastGreatest_L9_J47 o z l1 l2 l3 l4 l5 l6
        else
          fX0_leastGreatest_L9_J72 o z l1 l2 l3 l4 l5 l6
def fX0_leastGreatest (o : Nat) (z : CS) (a1 : Nat) (a2 : Int32) (a3 : Int32) : Option (Int32 × CS) :=
  (lpN (fun u => fX0_leastGreatest_L9 o u.2.2.2 a1 a2 a3 u.1 u.2.1 u.2.2.1) bigN ((-1 : Int32), (-1 : Int32), (0 : Int32), z)).bind fun e9 =>
  some (e9.1, e9.2)
set_option maxHeartbeats 4000000 in
set_option maxRecDepth 100000 in
theorem tX0_leastGreatest_L9 {κ : KK} {p : Program} {l : Launch} {e : Env} {s : State} {m : MethodId} {args : Array Value} {below : List Frame} {meth : Method} {c : Code} (C : Cx κ p s m args meth c cX0_leastGreatest 8 RX0 (some .int)) {o : Nat} {v : Option Value} {B' : Heap → Prop} {z : CS} {l1 : Nat} {l2 : Int32} {l3 : Int32} {l4 : Int32} {l5 : Int32} {l6 : Int32} {y : (Int32 × Int32 × Int32 × CS) ⊕ (Int32 × CS)} (h : fX0_leastGreatest_L9 o z l1 l2 l3 l4 l5 l6 = some y) (kc : ∀ u, y = .inl u → GC κ p l e s m args below meth c rmX0_leastGreatest 8 o v B' 0 0 u.2.2.2 9 [(0, .ref (o + 16)), (1, .ref l1), (2, .int l2), (3, .int l3), (4, .int u.1), (5, .int u.2.1), (6, .int u.2.2.1)] []) (kx : ∀ w, y = .inr w → GC κ p l e s m args below meth c rmX0_leastGreatest 8 o v B' 0 0 w.2 78 [(4, .int w.1)] []) : GC κ p l e s m args below meth c rmX0_leastGreatest 8 o v B' 0 0 z 9 [(0, .ref (o + 16)), (1, .ref l1), (2, .int l2), (3, .int l3), (4, .int l4), (5, .int l5), (6, .int l6)] [] := by
  have J72 : ∀ (z : CS) (l4 : Int32) (l5 : Int32) (l6 : Int32), fX0_leastGreatest_L9_J72 o z l1 l2 l3 l4 l5 l6 = some y → GC κ p l e s m args below meth c rmX0_leastGreatest 8 o v B' 0 0 z 72 [(0, .ref (o + 16)), (1, .ref l1), (2, .int l2), (3, .int l3), (4, .int l4), (5, .int l5), (6, .int l6)] [] := by
    intro z l4 l5 l6 h
    unfold fX0_leastGreatest_L9_J72 at h
    refine G_iinc (pc' := 75) C dX0_leastGreatest_72 6 rfl rfl [(6, .int (l6 + (1 : Int32))), (0, .ref (o + 16)), (1, .ref l1), (2, .int l2), (3, .int l3), (4, .int l4), (5, .int l5)] (by decide) rfl rfl ?_
    refine G_goto (tgt := 9) C dX0_leastGreatest_75 (by decide) ?_
    exact G_sub (lv' := [(0, .ref (o + 16)), (1, .ref l1), (2, .int l2), (3, .int l3), (4, .int l4), (5, .int l5), (6, .int (l6 + (1 : Int32)))]) [1, 2, 3, 4, 5, 6, 0] rfl (kc (l4, l5, (l6 + (1 : Int32)), z) (Option.some.inj h).symm)
  have J47 : ∀ (z : CS) (l4 : Int32) (l5 : Int32) (l6 : Int32), fX0_leastGreatest_L9_J47 o z l1 l2 l3 l4 l5 l6 = some y → GC κ p l e s m args below meth c rmX0_leastGreatest 8 o v B' 0 0 z 47 [(0, .ref (o + 16)), (1, .ref l1), (2, .int l2), (3, .int l3), (4, .int l4), (5, .int l5), (6, .int l6)] [] := by
    intro z l4 l5 l6 h
    unfold fX0_leastGreatest_L9_J47 at h
    refine G_aload_n (pc' := 48) C dX0_leastGreatest_47 0 rfl rfl ?_
    refine G_aload_n (pc' := 49) C dX0_leastGreatest_48 1 rfl rfl ?_
    refine G_iload_n (pc' := 50) C dX0_leastGreatest_49 2 rfl rfl ?_
    refine G_iload (pc' := 52) C dX0_leastGreatest_50 6 rfl rfl ?_
    replace h := ob h
    obtain ⟨q5, hq5, h⟩ := h
    refine G_cV0 (pc' := 55) C dX0_leastGreatest_52 (tX0_measure κ l o z l1 l2 l6 q5 hq5) (wV tw_ml_X0_47 tw_im_X0_measure tw_se_X0_X0_measure tw_in_X0 tw_co_X0_measure) yd_X0_measure rfl fi_X0 (CB_rd 16 rfl) rfl rfl (by decide) rfl (Nat.le_of_ble_eq_true rfl) rfl rfl ?_
    refine G_istore (pc' := 57) C dX0_leastGreatest_55 [(7, .int q5.1), (0, .ref (o + 16)), (1, .ref l1), (2, .int l2), (3, .int l3), (4, .int l4), (5, .int l5), (6, .int l6)] (by decide) rfl rfl ?_
    refine G_iload (pc' := 59) C dX0_leastGreatest_57 0 rfl rfl ?_
    refine G_iload (pc' := 61) C dX0_leastGreatest_59 6 rfl rfl ?_
    refine G_icmp_le (tgt := 72) (pc' := 64) C dX0_leastGreatest_61 (by decide) rfl (fun hc => ?_) (fun hc => ?_)
    · replace h := z_ip hc h
      exact G_sub (lv' := [(0, .ref (o + 16)), (1, .ref l1), (2, .int l2), (3, .int l3), (4, .int l4), (5, .int l5), (6, .int l6)]) [1, 2, 3, 4, 5, 6, 7] rfl (J72 q5.2 l4 l5 l6 h)
    · replace h := z_in hc h
      refine G_iload (pc' := 66) C dX0_leastGreatest_64 7 rfl rfl ?_
      refine G_istore (pc' := 68) C dX0_leastGreatest_66 [(4, .int l6), (7, .int q5.1), (0, .ref (o + 16)), (1, .ref l1), (2, .int l2), (3, .int l3), (5, .int l5), (6, .int l6)] (by decide) rfl rfl ?_
      refine G_iload (pc' := 70) C dX0_leastGreatest_68 1 rfl rfl ?_
      refine G_istore (pc' := 72) C dX0_leastGreatest_70 [(5, .int q5.1), (4, .int l6), (7, .int q5.1), (0, .ref (o + 16)), (1, .ref l1), (2, .int l2), (3, .int l3), (6, .int l6)] (by decide) rfl rfl ?_
      exact G_sub (lv' := [(0, .ref (o + 16)), (1, .ref l1), (2, .int l2), (3, .int l3), (4, .int l6), (5, .int q5.1), (6, .int l6)]) [3, 4, 5, 6, 1, 0, 7] rfl (J72 q5.2 l6 q5.1 l6 h)
  unfold fX0_leastGreatest_L9 at h
  refine G_iload (pc' := 11) C dX0_leastGreatest_9 6 rfl rfl ?_
  refine G_aload_n (pc' := 12) C dX0_leastGreatest_11 1 rfl rfl ?_
  replace h := ob h
  obtain ⟨t1, ht1, h⟩ := h
  refine G_get (pc' := 15) (k := 3) C fi_X8 dX0_leastGreatest_12 tw_fl_X0_37 rfl (by decide) (CB_T ht1) rfl rfl ?_
  replace h := ob h
  obtain ⟨ad2, had2, h⟩ := h
  rw [had2]
  replace h := ob h
  obtain ⟨v3, hv3, h⟩ := h
  refine P_lenB (pc' := 16) C dX0_leastGreatest_15 hv3 rfl ?_
  refine G_icmp_ge (tgt := 78) (pc' := 19) C dX0_leastGreatest_16 (by decide) rfl (fun hc => ?_) (fun hc => ?_)
  · replace h := z_ip hc h
    exact G_sub (lv' := [(4, .int l4)]) [4] rfl (kx _ (Option.some.inj h).symm)
  · replace h := z_in hc h
    refine G_iload (pc' := 21) C dX0_leastGreatest_19 5 rfl rfl ?_
    refine G_aload_n (pc' := 22) C dX0_leastGreatest_21 1 rfl rfl ?_
    replace h := ob h
    obtain ⟨t4, ht4, h⟩ := h
    refine G_get (pc' := 25) (k := 1) C fi_X8 dX0_leastGreatest_22 tw_fl_X0_43 rfl (by decide) (CB_T ht4) rfl rfl ?_
    refine G_icmp_ge (tgt := 78) (pc' := 28) C dX0_leastGreatest_25 (by decide) rfl (fun hc => ?_) (fun hc => ?_)
    · replace h := z_ip hc h
      exact G_sub (lv' := [(4, .int l4)]) [4] rfl (kx _ (Option.some.inj h).symm)
    · replace h := z_in hc h
      refine G_iload_n (pc' := 29) C dX0_leastGreatest_28 3 rfl rfl ?_
      refine G_iconst (pc' := 30) (v := (2 : Int32)) C dX0_leastGreatest_29 (by decide) rfl ?_
      refine G_icmp_eq (tgt := 47) (pc' := 33) C dX0_leastGreatest_30 (by decide) rfl (fun hc => ?_) (fun hc => ?_)
      · replace h := z_ip hc h
        exact G_sub (lv' := [(0, .ref (o + 16)), (1, .ref l1), (2, .int l2), (3, .int l3), (4, .int l4), (5, .int l5), (6, .int l6)]) [0, 1, 2, 3, 4, 5, 6] rfl (J47 z l4 l5 l6 h)
      · replace h := z_in hc h
        refine G_aload_n (pc' := 34) C dX0_leastGreatest_33 1 rfl rfl ?_
        replace h := ob h
        obtain ⟨t6, ht6, h⟩ := h
        refine G_get (pc' := 37) (k := 3) C fi_X8 dX0_leastGreatest_34 tw_fl_X0_37 rfl (by decide) (CB_T ht6) rfl rfl ?_
        refine G_iload (pc' := 39) C dX0_leastGreatest_37 6 rfl rfl ?_
        replace h := ob h
        obtain ⟨ad7, had7, h⟩ := h
        rw [had7]
        replace h := ob h
        obtain ⟨v8, hv8, h⟩ := h
        refine P_bald (pc' := 40) C dX0_leastGreatest_39 hv8 rfl ?_
        refine G_iload_n (pc' := 41) C dX0_leastGreatest_40 3 rfl rfl ?_
        refine G_icmp_eq (tgt := 47) (pc' := 44) C dX0_leastGreatest_41 (by decide) rfl (fun hc => ?_) (fun hc => ?_)
        · replace h := z_ip hc h
          exact G_sub (lv' := [(0, .ref (o + 16)), (1, .ref l1), (2, .int l2), (3, .int l3), (4, .int l4), (5, .int l5), (6, .int l6)]) [0, 1, 2, 3, 4, 5, 6] rfl (J47 z l4 l5 l6 h)
        · replace h := z_in hc h
          refine G_goto (tgt := 72) C dX0_leastGreatest_44 (by decide) ?_
          exact G_sub (lv' := [(0, .ref (o + 16)), (1, .ref l1), (2, .int l2), (3, .int l3), (4, .int l4), (5, .int l5), (6, .int l6)]) [0, 1, 2, 3, 4, 5, 6] rfl (J72 z l4 l5 l6 h)
set_option maxHeartbeats 4000000 in
set_option maxRecDepth 100000 in
theorem tX0_leastGreatest (κ : KK) (l : Launch) (o : Nat) (z : CS) (a1 : Nat) (a2 : Int32) (a3 : Int32) (q : Int32 × CS) (h : fX0_leastGreatest o z a1 a2 a3 = some q) : MM κ l yX0_leastGreatest cX0_leastGreatest 8 (some .int) rmX0_leastGreatest (CA o) [.ref (o + 16), .ref a1, .int a2, .int a3] (CB κ o z) (some (Value.int q.1)) (CB κ o q.2) := by
  refine MM.of (by decide +kernel) (Nat.le_of_ble_eq_true rfl) ?_
  intro p e s m below meth c C hnm
  unfold fX0_leastGreatest at h
  refine G_sub (lv' := [(0, .ref (o + 16)), (1, .ref a1), (2, .int a2), (3, .int a3)]) [0, 1, 2, 3] rfl ?_
  refine G_iconst (pc' := 1) (v := (-1 : Int32)) C dX0_leastGreatest_0 (by decide) rfl ?_
  refine G_istore (pc' := 3) C dX0_leastGreatest_1 [(4, .int (-1 : Int32)), (0, .ref (o + 16)), (1, .ref a1), (2, .int a2), (3, .int a3)] (by decide) rfl rfl ?_
  refine G_iconst (pc' := 4) (v := (-1 : Int32)) C dX0_leastGreatest_3 (by decide) rfl ?_
  refine G_istore (pc' := 6) C dX0_leastGreatest_4 [(5, .int (-1 : Int32)), (4, .int (-1 : Int32)), (0, .ref (o + 16)), (1, .ref a1), (2, .int a2), (3, .int a3)] (by decide) rfl rfl ?_
  refine G_iconst (pc' := 7) (v := (0 : Int32)) C dX0_leastGreatest_6 (by decide) rfl ?_
  refine G_istore (pc' := 9) C dX0_leastGreatest_7 [(6, .int (0 : Int32)), (5, .int (-1 : Int32)), (4, .int (-1 : Int32)), (0, .ref (o + 16)), (1, .ref a1), (2, .int a2), (3, .int a3)] (by decide) rfl rfl ?_
  replace h := ob h
  obtain ⟨e9, hle9, h⟩ := h
  refine G_sub (lv' := [(0, .ref (o + 16)), (1, .ref a1), (2, .int a2), (3, .int a3), (4, .int (-1 : Int32)), (5, .int (-1 : Int32)), (6, .int (0 : Int32))]) [3, 4, 5, 6, 2, 1, 0] rfl ?_
  refine lpN_ind (body := fun u => fX0_leastGreatest_L9 o u.2.2.2 a1 a2 a3 u.1 u.2.1 u.2.2.1) (P := fun u => GC κ p l e s m ([.ref (o + 16), .ref a1, .int a2, .int a3] : List Value).toArray below meth c rmX0_leastGreatest 8 o (some (Value.int q.1)) (CB κ o q.2) 0 0 u.2.2.2 9 [(0, .ref (o + 16)), (1, .ref a1), (2, .int a2), (3, .int a3), (4, .int u.1), (5, .int u.2.1), (6, .int u.2.2.1)] []) (X := fun w => GC κ p l e s m ([.ref (o + 16), .ref a1, .int a2, .int a3] : List Value).toArray below meth c rmX0_leastGreatest 8 o (some (Value.int q.1)) (CB κ o q.2) 0 0 w.2 78 [(4, .int w.1)] []) (fun u y hb kc kx => tX0_leastGreatest_L9 C hb kc kx) _ _ _ hle9 ?_
  refine G_iload (pc' := 80) C dX0_leastGreatest_78 0 rfl rfl ?_
  refine G_widen (k := rmX0_leastGreatest.cells) (n := rmX0_leastGreatest.slots) (by decide) (by decide) ?_
  obtain rfl := Option.some.inj h
  exact G_iret C dX0_leastGreatest_80 (fun _ h => h)
theorem dX9_most_0 : decode cX9_most 0 = .ok (.aload_n 0, 1) := by decide +kernel
theorem dX9_most_1 : decode cX9_most 1 = .ok (.iload_n 1, 1) := by decide +kernel
theorem dX9_most_2 : decode cX9_most 2 = .ok (.iload_n 2, 1) := by decide +kernel
theorem dX9_most_3 : decode cX9_most 3 = .ok (.iload_n 3, 1) := by decide +kernel
theorem dX9_most_4 : decode cX9_most 4 = .ok (.invokevirtual 268, 3) := by decide +kernel
theorem dX9_most_7 : decode cX9_most 7 = .ok (.istore 4, 2) := by decide +kernel
theorem dX9_most_9 : decode cX9_most 9 = .ok (.iload 4, 2) := by decide +kernel
theorem dX9_most_11 : decode cX9_most 11 = .ok (.ifCond .eq 6, 3) := by decide +kernel
theorem dX9_most_14 : decode cX9_most 14 = .ok (.iload 4, 2) := by decide +kernel
theorem dX9_most_16 : decode cX9_most 16 = .ok (.ireturn, 1) := by decide +kernel
theorem dX9_most_17 : decode cX9_most 17 = .ok (.aload_n 0, 1) := by decide +kernel
theorem dX9_most_18 : decode cX9_most 18 = .ok (.getfield 17, 3) := by decide +kernel
theorem dX9_most_21 : decode cX9_most 21 = .ok (.iload_n 1, 1) := by decide +kernel
theorem dX9_most_22 : decode cX9_most 22 = .ok (.aaload, 1) := by decide +kernel
theorem dX9_most_23 : decode cX9_most 23 = .ok (.astore 5, 2) := by decide +kernel
theorem dX9_most_25 : decode cX9_most 25 = .ok (.aload_n 0, 1) := by decide +kernel
theorem dX9_most_26 : decode cX9_most 26 = .ok (.getfield 50, 3) := by decide +kernel
theorem dX9_most_29 : decode cX9_most 29 = .ok (.aload 5, 2) := by decide +kernel
theorem dX9_most_31 : decode cX9_most 31 = .ok (.iload_n 2, 1) := by decide +kernel
theorem dX9_most_32 : decode cX9_most 32 = .ok (.iload_n 3, 1) := by decide +kernel
theorem dX9_most_33 : decode cX9_most 33 = .ok (.invokevirtual 271, 3) := by decide +kernel
theorem dX9_most_36 : decode cX9_most 36 = .ok (.istore 6, 2) := by decide +kernel
theorem dX9_most_38 : decode cX9_most 38 = .ok (.iload 6, 2) := by decide +kernel
theorem dX9_most_40 : decode cX9_most 40 = .ok (.iconst (-1), 1) := by decide +kernel
theorem dX9_most_41 : decode cX9_most 41 = .ok (.if_icmp .ne 7, 3) := by decide +kernel
theorem dX9_most_44 : decode cX9_most 44 = .ok (.iconst 0, 1) := by decide +kernel
theorem dX9_most_45 : decode cX9_most 45 = .ok (.goto 15, 3) := by decide +kernel
theorem dX9_most_48 : decode cX9_most 48 = .ok (.aload_n 0, 1) := by decide +kernel
theorem dX9_most_49 : decode cX9_most 49 = .ok (.getfield 50, 3) := by decide +kernel
theorem dX9_most_52 : decode cX9_most 52 = .ok (.aload 5, 2) := by decide +kernel
theorem dX9_most_54 : decode cX9_most 54 = .ok (.iload_n 2, 1) := by decide +kernel
theorem dX9_most_55 : decode cX9_most 55 = .ok (.iload 6, 2) := by decide +kernel
theorem dX9_most_57 : decode cX9_most 57 = .ok (.invokevirtual 264, 3) := by decide +kernel
theorem dX9_most_60 : decode cX9_most 60 = .ok (.ireturn, 1) := by decide +kernel
theorem yd_X9_most : yX9_most.cls = RX9 ∧ yX9_most.cls ≠ "java/lang/invoke/MethodHandle" ∧ yX9_most.cls ≠ "java/lang/invoke/VarHandle" ∧ (parseMethodDescriptor yX9_most.desc).map (fun d => d.parameters.length) = some 3 := by decide +kernel
abbrev rmX9_most : Room := { frames := 4, cells := 0, slots := 0, locals := 99 }
def fX9_most (o : Nat) (z : CS) (a1 : Int32) (a2 : Int32) (a3 : Int32) : Option (Int32 × CS) :=
  (fX9_findingOfMost o z a1 a2 a3).bind fun q1 =>
  if q1.1 = 0 then
    (aQ 8 (q1.2.2.2.1 1) a1).bind fun v2 =>
    (v2).bind fun ad3 =>
    (fX0_leastGreatest o q1.2 ad3 a2 a3).bind fun q4 =>
    if q4.1 = (-1 : Int32) then
      some ((0 : Int32), q4.2)
    else
      (fX0_measure o q4.2 ad3 a2 q4.1).bind fun q5 =>
      some (q5.1, q5.2)
  else
    some (q1.1, q1.2)
set_option maxHeartbeats 4000000 in
set_option maxRecDepth 100000 in
theorem tX9_most (κ : KK) (l : Launch) (o : Nat) (z : CS) (a1 : Int32) (a2 : Int32) (a3 : Int32) (q : Int32 × CS) (h : fX9_most o z a1 a2 a3 = some q) : MM κ l yX9_most cX9_most 7 (some .int) rmX9_most (CA o) [.ref o, .int a1, .int a2, .int a3] (CB κ o z) (some (Value.int q.1)) (CB κ o q.2) := by
  refine MM.of (by decide +kernel) (Nat.le_of_ble_eq_true rfl) ?_
  intro p e s m below meth c C hnm
  unfold fX9_most at h
  refine G_sub (lv' := [(0, .ref o), (1, .int a1), (2, .int a2), (3, .int a3)]) [0, 1, 2, 3] rfl ?_
  refine G_aload_n (pc' := 1) C dX9_most_0 0 rfl rfl ?_
  refine G_iload_n (pc' := 2) C dX9_most_1 1 rfl rfl ?_
  refine G_iload_n (pc' := 3) C dX9_most_2 2 rfl rfl ?_
  refine G_iload_n (pc' := 4) C dX9_most_3 3 rfl rfl ?_
  replace h := ob h
  obtain ⟨q1, hq1, h⟩ := h
  refine G_cV0 (pc' := 7) C dX9_most_4 (tX9_findingOfMost κ l o z a1 a2 a3 q1 hq1) (wV tw_ml_X9_268 tw_im_X9_findingOfMost tw_se_X9_X9_findingOfMost tw_in_X9 tw_co_X9_findingOfMost) yd_X9_findingOfMost rfl fi_X9 (CB_rd 0 rfl) rfl rfl (by decide) rfl (Nat.le_of_ble_eq_true rfl) rfl rfl ?_
  refine G_istore (pc' := 9) C dX9_most_7 [(4, .int q1.1), (0, .ref o), (1, .int a1), (2, .int a2), (3, .int a3)] (by decide) rfl rfl ?_
  refine G_iload (pc' := 11) C dX9_most_9 0 rfl rfl ?_
  refine G_if_eq (tgt := 17) (pc' := 14) C dX9_most_11 (by decide) rfl (fun hc => ?_) (fun hc => ?_)
  · replace h := z_ip hc h
    refine G_aload_n (pc' := 18) C dX9_most_17 1 rfl rfl ?_
    refine G_get (pc' := 21) (k := 1) C fi_X9 dX9_most_18 tw_fl_X9_17 rfl (by decide) (CB_rd 0 rfl) rfl rfl ?_
    refine G_iload_n (pc' := 22) C dX9_most_21 2 rfl rfl ?_
    replace h := ob h
    obtain ⟨v2, hv2, h⟩ := h
    refine G_aald5V (pc' := 23) C dX9_most_22 (CB_rd 2 rfl) hv2 rfl ?_
    refine G_qstore (pc' := 25) C dX9_most_23 [(5, va_rf v2), (4, .int q1.1), (0, .ref o), (1, .int a1), (2, .int a2), (3, .int a3)] (by decide) rfl rfl ?_
    refine G_aload_n (pc' := 26) C dX9_most_25 2 rfl rfl ?_
    refine G_get (pc' := 29) (k := 7) C fi_X9 dX9_most_26 tw_fl_X9_50 rfl (by decide) (CB_rd 0 rfl) rfl rfl ?_
    refine G_qload (pc' := 31) C dX9_most_29 0 rfl rfl ?_
    refine G_iload_n (pc' := 32) C dX9_most_31 4 rfl rfl ?_
    refine G_iload_n (pc' := 33) C dX9_most_32 5 rfl rfl ?_
    replace h := ob h
    obtain ⟨ad3, had3, h⟩ := h
    subst had3
    replace h := ob h
    obtain ⟨q4, hq4, h⟩ := h
    refine G_cV0 (pc' := 36) C dX9_most_33 (tX0_leastGreatest κ l o q1.2 ad3 a2 a3 q4 hq4) (wV tw_ml_X9_271 tw_im_X0_leastGreatest tw_se_X0_X0_leastGreatest tw_in_X0 tw_co_X0_leastGreatest) yd_X0_leastGreatest rfl fi_X0 (CB_rd 16 rfl) rfl rfl (by decide) rfl (Nat.le_of_ble_eq_true rfl) rfl rfl ?_
    refine G_istore (pc' := 38) C dX9_most_36 [(6, .int q4.1), (5, .ref ad3), (4, .int q1.1), (0, .ref o), (1, .int a1), (2, .int a2), (3, .int a3)] (by decide) rfl rfl ?_
    refine G_iload (pc' := 40) C dX9_most_38 0 rfl rfl ?_
    refine G_iconst (pc' := 41) (v := (-1 : Int32)) C dX9_most_40 (by decide) rfl ?_
    refine G_icmp_ne (tgt := 48) (pc' := 44) C dX9_most_41 (by decide) rfl (fun hc => ?_) (fun hc => ?_)
    · replace h := z_in hc h
      refine G_aload_n (pc' := 49) C dX9_most_48 3 rfl rfl ?_
      refine G_get (pc' := 52) (k := 7) C fi_X9 dX9_most_49 tw_fl_X9_50 rfl (by decide) (CB_rd 0 rfl) rfl rfl ?_
      refine G_aload (pc' := 54) C dX9_most_52 1 rfl rfl ?_
      refine G_iload_n (pc' := 55) C dX9_most_54 5 rfl rfl ?_
      refine G_iload (pc' := 57) C dX9_most_55 0 rfl rfl ?_
      replace h := ob h
      obtain ⟨q5, hq5, h⟩ := h
      refine G_cV0 (pc' := 60) C dX9_most_57 (tX0_measure κ l o q4.2 ad3 a2 q4.1 q5 hq5) (wV tw_ml_X9_264 tw_im_X0_measure tw_se_X0_X0_measure tw_in_X0 tw_co_X0_measure) yd_X0_measure rfl fi_X0 (CB_rd 16 rfl) rfl rfl (by decide) rfl (Nat.le_of_ble_eq_true rfl) rfl rfl ?_
      refine G_widen (k := rmX9_most.cells) (n := rmX9_most.slots) (by decide) (by decide) ?_
      obtain rfl := Option.some.inj h
      exact G_iret C dX9_most_60 (fun _ h => h)
    · replace h := z_ip hc h
      refine G_iconst (pc' := 45) (v := (0 : Int32)) C dX9_most_44 (by decide) rfl ?_
      refine G_goto (tgt := 60) C dX9_most_45 (by decide) ?_
      refine G_widen (k := rmX9_most.cells) (n := rmX9_most.slots) (by decide) (by decide) ?_
      obtain rfl := Option.some.inj h
      exact G_iret C dX9_most_60 (fun _ h => h)
  · replace h := z_in hc h
    refine G_iload (pc' := 16) C dX9_most_14 0 rfl rfl ?_
    refine G_widen (k := rmX9_most.cells) (n := rmX9_most.slots) (by decide) (by decide) ?_
    obtain rfl := Option.some.inj h
    exact G_iret C dX9_most_16 (fun _ h => h)
theorem dX9_where_0 : decode cX9_where 0 = .ok (.aload_n 0, 1) := by decide +kernel
theorem dX9_where_1 : decode cX9_where 1 = .ok (.iload_n 1, 1) := by decide +kernel
theorem dX9_where_2 : decode cX9_where 2 = .ok (.iload_n 2, 1) := by decide +kernel
theorem dX9_where_3 : decode cX9_where 3 = .ok (.iload_n 3, 1) := by decide +kernel
theorem dX9_where_4 : decode cX9_where 4 = .ok (.invokevirtual 268, 3) := by decide +kernel
theorem dX9_where_7 : decode cX9_where 7 = .ok (.istore 4, 2) := by decide +kernel
theorem dX9_where_9 : decode cX9_where 9 = .ok (.iload 4, 2) := by decide +kernel
theorem dX9_where_11 : decode cX9_where 11 = .ok (.ifCond .eq 8, 3) := by decide +kernel
theorem dX9_where_14 : decode cX9_where 14 = .ok (.iload 4, 2) := by decide +kernel
theorem dX9_where_16 : decode cX9_where 16 = .ok (.goto 18, 3) := by decide +kernel
theorem dX9_where_19 : decode cX9_where 19 = .ok (.aload_n 0, 1) := by decide +kernel
theorem dX9_where_20 : decode cX9_where 20 = .ok (.getfield 50, 3) := by decide +kernel
theorem dX9_where_23 : decode cX9_where 23 = .ok (.aload_n 0, 1) := by decide +kernel
theorem dX9_where_24 : decode cX9_where 24 = .ok (.getfield 17, 3) := by decide +kernel
theorem dX9_where_27 : decode cX9_where 27 = .ok (.iload_n 1, 1) := by decide +kernel
theorem dX9_where_28 : decode cX9_where 28 = .ok (.aaload, 1) := by decide +kernel
theorem dX9_where_29 : decode cX9_where 29 = .ok (.iload_n 2, 1) := by decide +kernel
theorem dX9_where_30 : decode cX9_where 30 = .ok (.iload_n 3, 1) := by decide +kernel
theorem dX9_where_31 : decode cX9_where 31 = .ok (.invokevirtual 271, 3) := by decide +kernel
theorem dX9_where_34 : decode cX9_where 34 = .ok (.ireturn, 1) := by decide +kernel
theorem yd_X9_where : yX9_where.cls = RX9 ∧ yX9_where.cls ≠ "java/lang/invoke/MethodHandle" ∧ yX9_where.cls ≠ "java/lang/invoke/VarHandle" ∧ (parseMethodDescriptor yX9_where.desc).map (fun d => d.parameters.length) = some 3 := by decide +kernel
abbrev rmX9_where : Room := { frames := 4, cells := 0, slots := 0, locals := 99 }
def fX9_where (o : Nat) (z : CS) (a1 : Int32) (a2 : Int32) (a3 : Int32) : Option (Int32 × CS) :=
  (fX9_findingOfMost o z a1 a2 a3).bind fun q1 =>
  if q1.1 = 0 then
    (aQ 8 (q1.2.2.2.1 1) a1).bind fun v2 =>
    (v2).bind fun ad3 =>
    (fX0_leastGreatest o q1.2 ad3 a2 a3).bind fun q4 =>
    some (q4.1, q4.2)
  else
    some (q1.1, q1.2)
set_option maxHeartbeats 4000000 in
set_option maxRecDepth 100000 in
theorem tX9_where (κ : KK) (l : Launch) (o : Nat) (z : CS) (a1 : Int32) (a2 : Int32) (a3 : Int32) (q : Int32 × CS) (h : fX9_where o z a1 a2 a3 = some q) : MM κ l yX9_where cX9_where 5 (some .int) rmX9_where (CA o) [.ref o, .int a1, .int a2, .int a3] (CB κ o z) (some (Value.int q.1)) (CB κ o q.2) := by
  refine MM.of (by decide +kernel) (Nat.le_of_ble_eq_true rfl) ?_
  intro p e s m below meth c C hnm
  unfold fX9_where at h
  refine G_sub (lv' := [(0, .ref o), (1, .int a1), (2, .int a2), (3, .int a3)]) [0, 1, 2, 3] rfl ?_
  refine G_aload_n (pc' := 1) C dX9_where_0 0 rfl rfl ?_
  refine G_iload_n (pc' := 2) C dX9_where_1 1 rfl rfl ?_
  refine G_iload_n (pc' := 3) C dX9_where_2 2 rfl rfl ?_
  refine G_iload_n (pc' := 4) C dX9_where_3 3 rfl rfl ?_
  replace h := ob h
  obtain ⟨q1, hq1, h⟩ := h
  refine G_cV0 (pc' := 7) C dX9_where_4 (tX9_findingOfMost κ l o z a1 a2 a3 q1 hq1) (wV tw_ml_X9_268 tw_im_X9_findingOfMost tw_se_X9_X9_findingOfMost tw_in_X9 tw_co_X9_findingOfMost) yd_X9_findingOfMost rfl fi_X9 (CB_rd 0 rfl) rfl rfl (by decide) rfl (Nat.le_of_ble_eq_true rfl) rfl rfl ?_
  refine G_istore (pc' := 9) C dX9_where_7 [(4, .int q1.1), (0, .ref o), (1, .int a1), (2, .int a2), (3, .int a3)] (by decide) rfl rfl ?_
  refine G_iload (pc' := 11) C dX9_where_9 0 rfl rfl ?_
  refine G_if_eq (tgt := 19) (pc' := 14) C dX9_where_11 (by decide) rfl (fun hc => ?_) (fun hc => ?_)
  · replace h := z_ip hc h
    refine G_aload_n (pc' := 20) C dX9_where_19 1 rfl rfl ?_
    refine G_get (pc' := 23) (k := 7) C fi_X9 dX9_where_20 tw_fl_X9_50 rfl (by decide) (CB_rd 0 rfl) rfl rfl ?_
    refine G_aload_n (pc' := 24) C dX9_where_23 1 rfl rfl ?_
    refine G_get (pc' := 27) (k := 1) C fi_X9 dX9_where_24 tw_fl_X9_17 rfl (by decide) (CB_rd 0 rfl) rfl rfl ?_
    refine G_iload_n (pc' := 28) C dX9_where_27 2 rfl rfl ?_
    replace h := ob h
    obtain ⟨v2, hv2, h⟩ := h
    refine G_aald5V (pc' := 29) C dX9_where_28 (CB_rd 2 rfl) hv2 rfl ?_
    refine G_iload_n (pc' := 30) C dX9_where_29 3 rfl rfl ?_
    refine G_iload_n (pc' := 31) C dX9_where_30 4 rfl rfl ?_
    replace h := ob h
    obtain ⟨ad3, had3, h⟩ := h
    subst had3
    replace h := ob h
    obtain ⟨q4, hq4, h⟩ := h
    refine G_cV0 (pc' := 34) C dX9_where_31 (tX0_leastGreatest κ l o q1.2 ad3 a2 a3 q4 hq4) (wV tw_ml_X9_271 tw_im_X0_leastGreatest tw_se_X0_X0_leastGreatest tw_in_X0 tw_co_X0_leastGreatest) yd_X0_leastGreatest rfl fi_X0 (CB_rd 16 rfl) rfl rfl (by decide) rfl (Nat.le_of_ble_eq_true rfl) rfl rfl ?_
    refine G_widen (k := rmX9_where.cells) (n := rmX9_where.slots) (by decide) (by decide) ?_
    obtain rfl := Option.some.inj h
    exact G_iret C dX9_where_34 (fun _ h => h)
  · replace h := z_in hc h
    refine G_iload (pc' := 16) C dX9_where_14 0 rfl rfl ?_
    refine G_goto (tgt := 34) C dX9_where_16 (by decide) ?_
    refine G_widen (k := rmX9_where.cells) (n := rmX9_where.slots) (by decide) (by decide) ?_
    obtain rfl := Option.some.inj h
    exact G_iret C dX9_where_34 (fun _ h => h)
theorem dX6_loadPoly_0 : decode cX6_loadPoly 0 = .ok (.iconst 0, 1) := by decide +kernel
theorem dX6_loadPoly_1 : decode cX6_loadPoly 1 = .ok (.istore_n 2, 1) := by decide +kernel
theorem dX6_loadPoly_2 : decode cX6_loadPoly 2 = .ok (.iload_n 2, 1) := by decide +kernel
theorem dX6_loadPoly_3 : decode cX6_loadPoly 3 = .ok (.aload_n 1, 1) := by decide +kernel
theorem dX6_loadPoly_4 : decode cX6_loadPoly 4 = .ok (.getfield 15, 3) := by decide +kernel
theorem dX6_loadPoly_7 : decode cX6_loadPoly 7 = .ok (.arraylength, 1) := by decide +kernel
theorem dX6_loadPoly_8 : decode cX6_loadPoly 8 = .ok (.if_icmp .ge 21, 3) := by decide +kernel
theorem dX6_loadPoly_11 : decode cX6_loadPoly 11 = .ok (.aload_n 0, 1) := by decide +kernel
theorem dX6_loadPoly_12 : decode cX6_loadPoly 12 = .ok (.getfield 9, 3) := by decide +kernel
theorem dX6_loadPoly_15 : decode cX6_loadPoly 15 = .ok (.iload_n 2, 1) := by decide +kernel
theorem dX6_loadPoly_16 : decode cX6_loadPoly 16 = .ok (.aload_n 1, 1) := by decide +kernel
theorem dX6_loadPoly_17 : decode cX6_loadPoly 17 = .ok (.getfield 15, 3) := by decide +kernel
theorem dX6_loadPoly_20 : decode cX6_loadPoly 20 = .ok (.iload_n 2, 1) := by decide +kernel
theorem dX6_loadPoly_21 : decode cX6_loadPoly 21 = .ok (.baload, 1) := by decide +kernel
theorem dX6_loadPoly_22 : decode cX6_loadPoly 22 = .ok (.iastore, 1) := by decide +kernel
theorem dX6_loadPoly_23 : decode cX6_loadPoly 23 = .ok (.iinc 2 1, 3) := by decide +kernel
theorem dX6_loadPoly_26 : decode cX6_loadPoly 26 = .ok (.goto (-24), 3) := by decide +kernel
theorem dX6_loadPoly_29 : decode cX6_loadPoly 29 = .ok (.iconst 0, 1) := by decide +kernel
theorem dX6_loadPoly_30 : decode cX6_loadPoly 30 = .ok (.istore_n 2, 1) := by decide +kernel
theorem dX6_loadPoly_31 : decode cX6_loadPoly 31 = .ok (.iload_n 2, 1) := by decide +kernel
theorem dX6_loadPoly_32 : decode cX6_loadPoly 32 = .ok (.aload_n 1, 1) := by decide +kernel
theorem dX6_loadPoly_33 : decode cX6_loadPoly 33 = .ok (.getfield 21, 3) := by decide +kernel
theorem dX6_loadPoly_36 : decode cX6_loadPoly 36 = .ok (.if_icmp .ge 54, 3) := by decide +kernel
theorem dX6_loadPoly_39 : decode cX6_loadPoly 39 = .ok (.iconst 0, 1) := by decide +kernel
theorem dX6_loadPoly_40 : decode cX6_loadPoly 40 = .ok (.istore_n 3, 1) := by decide +kernel
theorem dX6_loadPoly_41 : decode cX6_loadPoly 41 = .ok (.iload_n 3, 1) := by decide +kernel
theorem dX6_loadPoly_42 : decode cX6_loadPoly 42 = .ok (.aload_n 1, 1) := by decide +kernel
theorem dX6_loadPoly_43 : decode cX6_loadPoly 43 = .ok (.getfield 15, 3) := by decide +kernel
theorem dX6_loadPoly_46 : decode cX6_loadPoly 46 = .ok (.arraylength, 1) := by decide +kernel
theorem dX6_loadPoly_47 : decode cX6_loadPoly 47 = .ok (.if_icmp .ge 37, 3) := by decide +kernel
theorem dX6_loadPoly_50 : decode cX6_loadPoly 50 = .ok (.iload_n 3, 1) := by decide +kernel
theorem dX6_loadPoly_51 : decode cX6_loadPoly 51 = .ok (.iload_n 2, 1) := by decide +kernel
theorem dX6_loadPoly_52 : decode cX6_loadPoly 52 = .ok (.ishr, 1) := by decide +kernel
theorem dX6_loadPoly_53 : decode cX6_loadPoly 53 = .ok (.iconst 1, 1) := by decide +kernel
theorem dX6_loadPoly_54 : decode cX6_loadPoly 54 = .ok (.iand, 1) := by decide +kernel
theorem dX6_loadPoly_55 : decode cX6_loadPoly 55 = .ok (.iconst 1, 1) := by decide +kernel
theorem dX6_loadPoly_56 : decode cX6_loadPoly 56 = .ok (.if_icmp .ne 22, 3) := by decide +kernel
theorem dX6_loadPoly_59 : decode cX6_loadPoly 59 = .ok (.aload_n 0, 1) := by decide +kernel
theorem dX6_loadPoly_60 : decode cX6_loadPoly 60 = .ok (.getfield 9, 3) := by decide +kernel
theorem dX6_loadPoly_63 : decode cX6_loadPoly 63 = .ok (.iload_n 3, 1) := by decide +kernel
theorem dX6_loadPoly_64 : decode cX6_loadPoly 64 = .ok (.dup2, 1) := by decide +kernel
theorem dX6_loadPoly_65 : decode cX6_loadPoly 65 = .ok (.iaload, 1) := by decide +kernel
theorem dX6_loadPoly_66 : decode cX6_loadPoly 66 = .ok (.aload_n 0, 1) := by decide +kernel
theorem dX6_loadPoly_67 : decode cX6_loadPoly 67 = .ok (.getfield 9, 3) := by decide +kernel
theorem dX6_loadPoly_70 : decode cX6_loadPoly 70 = .ok (.iload_n 3, 1) := by decide +kernel
theorem dX6_loadPoly_71 : decode cX6_loadPoly 71 = .ok (.iconst 1, 1) := by decide +kernel
theorem dX6_loadPoly_72 : decode cX6_loadPoly 72 = .ok (.iload_n 2, 1) := by decide +kernel
theorem dX6_loadPoly_73 : decode cX6_loadPoly 73 = .ok (.ishl, 1) := by decide +kernel
theorem dX6_loadPoly_74 : decode cX6_loadPoly 74 = .ok (.ixor, 1) := by decide +kernel
theorem dX6_loadPoly_75 : decode cX6_loadPoly 75 = .ok (.iaload, 1) := by decide +kernel
theorem dX6_loadPoly_76 : decode cX6_loadPoly 76 = .ok (.isub, 1) := by decide +kernel
theorem dX6_loadPoly_77 : decode cX6_loadPoly 77 = .ok (.iastore, 1) := by decide +kernel
theorem dX6_loadPoly_78 : decode cX6_loadPoly 78 = .ok (.iinc 3 1, 3) := by decide +kernel
theorem dX6_loadPoly_81 : decode cX6_loadPoly 81 = .ok (.goto (-40), 3) := by decide +kernel
theorem dX6_loadPoly_84 : decode cX6_loadPoly 84 = .ok (.iinc 2 1, 3) := by decide +kernel
theorem dX6_loadPoly_87 : decode cX6_loadPoly 87 = .ok (.goto (-56), 3) := by decide +kernel
theorem dX6_loadPoly_90 : decode cX6_loadPoly 90 = .ok (.return_, 1) := by decide +kernel
theorem yd_X6_loadPoly : yX6_loadPoly.cls = RX6 ∧ yX6_loadPoly.cls ≠ "java/lang/invoke/MethodHandle" ∧ yX6_loadPoly.cls ≠ "java/lang/invoke/VarHandle" ∧ (parseMethodDescriptor yX6_loadPoly.desc).map (fun d => d.parameters.length) = some 1 := by decide +kernel
abbrev rmX6_loadPoly : Room := { frames := 0, cells := 0, slots := 0, locals := 0 }
def fX6_loadPoly_L2 (o : Nat) (z : CS) (l1 : Nat) (l2 : Int32) : Option ((Int32 × CS) ⊕ CS) :=
  (dT z l1).bind fun t1 =>
  (t1.2.2.2).bind fun ad2 =>
  (lnB z ad2).bind fun v3 =>
  if v3 ≤ l2 then
    some (.inr z)
  else
    (dT z l1).bind fun t4 =>
    (t4.2.2.2).bind fun ad5 =>
    (rdB z ad5 l2).bind fun v6 =>
    (csA z 12 256 l2 v6).bind fun z7 =>
    some (.inl ((l2 + (1 : Int32)), z7))
def fX6_loadPoly_L41_J78 (o : Nat) (z : CS) (l1 : Nat) (l2 : Int32) (l3 : Int32) : Option ((Int32 × CS) ⊕ CS) :=
  some (.inl ((l3 + (1 : Int32)), z))
def fX6_loadPoly_L41 (o : Nat) (z : CS) (l1 : Nat) (l2 : Int32) (l3 : Int32) : Option ((Int32 × CS) ⊕ CS) :=
  (dT z l1).bind fun t10 =>
  (t10.2.2.2).bind fun ad11 =>
  (lnB z ad11).bind fun v12 =>
  if v12 ≤ l3 then
    some (.inr z)
  else
    if ((l3 >>> (l2 &&& 31)) &&& (1 : Int32)) = (1 : Int32) then
      (aI 256 (z.2.1 12) l3).bind fun v13 =>
      (aI 256 (z.2.1 12) (l3 ^^^ ((1 : Int32) <<< (l2 &&& 31)))).bind fun v14 =>
      (csA z 12 256 l3 (v13 - v14)).bind fun z15 =>
      fX6_loadPoly_L41_J78 o z15 l1 l2 l3
    else
      fX6_loadPoly_L41_J78 o z l1 l2 l3
def fX6_loadPoly_L31 (o : Nat) (z : CS) (l1 : Nat) (l2 : Int32) : Option ((Int32 × CS) ⊕ CS) :=
  (dT z l1).bind fun t9 =>
  if t9.2.1 ≤ l2 then
    some (.inr z)
  else
    (lpN (fun u => fX6_loadPoly_L41 o u.2 l1 l2 u.1) bigN ((0 : Int32), z)).bind fun e16 =>
    some (.inl ((l2 + (1 : Int32)), e16))
def fX6_loadPoly (o : Nat) (z : CS) (a1 : Nat) : Option (CS) :=
  (lpN (fun u => fX6_loadPoly_L2 o u.2 a1 u.1) bigN ((0 : Int32), z)).bind fun e8 =>
  (lpN (fun u => fX6_loadPoly_L31 o u.2 a1 u.1) bigN ((0 : Int32), e8)).bind fun e17 =>
  some e17
set_option maxHeartbeats 4000000 in
set_option maxRecDepth 100000 in
theorem tX6_loadPoly_L2 {κ : KK} {p : Program} {l : Launch} {e : Env} {s : State} {m : MethodId} {args : Array Value} {below : List Frame} {meth : Method} {c : Code} (C : Cx κ p s m args meth c cX6_loadPoly 4 RX6 none) {o : Nat} {v : Option Value} {B' : Heap → Prop} {z : CS} {l1 : Nat} {l2 : Int32} {y : (Int32 × CS) ⊕ CS} (h : fX6_loadPoly_L2 o z l1 l2 = some y) (kc : ∀ u, y = .inl u → GC κ p l e s m args below meth c rmX6_loadPoly 4 o v B' 0 0 u.2 2 [(0, .ref (o + 20)), (1, .ref l1), (2, .int u.1)] []) (kx : ∀ w, y = .inr w → GC κ p l e s m args below meth c rmX6_loadPoly 4 o v B' 0 0 w 29 [(0, .ref (o + 20)), (1, .ref l1)] []) : GC κ p l e s m args below meth c rmX6_loadPoly 4 o v B' 0 0 z 2 [(0, .ref (o + 20)), (1, .ref l1), (2, .int l2)] [] := by
  unfold fX6_loadPoly_L2 at h
  refine G_iload_n (pc' := 3) C dX6_loadPoly_2 2 rfl rfl ?_
  refine G_aload_n (pc' := 4) C dX6_loadPoly_3 1 rfl rfl ?_
  replace h := ob h
  obtain ⟨t1, ht1, h⟩ := h
  refine G_get (pc' := 7) (k := 3) C fi_X8 dX6_loadPoly_4 tw_fl_X6_15 rfl (by decide) (CB_T ht1) rfl rfl ?_
  replace h := ob h
  obtain ⟨ad2, had2, h⟩ := h
  rw [had2]
  replace h := ob h
  obtain ⟨v3, hv3, h⟩ := h
  refine P_lenB (pc' := 8) C dX6_loadPoly_7 hv3 rfl ?_
  refine G_icmp_ge (tgt := 29) (pc' := 11) C dX6_loadPoly_8 (by decide) rfl (fun hc => ?_) (fun hc => ?_)
  · replace h := z_ip hc h
    exact G_sub (lv' := [(0, .ref (o + 20)), (1, .ref l1)]) [0, 1] rfl (kx _ (Option.some.inj h).symm)
  · replace h := z_in hc h
    refine G_aload_n (pc' := 12) C dX6_loadPoly_11 0 rfl rfl ?_
    refine G_get (pc' := 15) (k := 0) C fi_X6 dX6_loadPoly_12 tw_fl_X6_9 rfl (by decide) (CB_rd 20 rfl) rfl rfl ?_
    refine G_iload_n (pc' := 16) C dX6_loadPoly_15 2 rfl rfl ?_
    refine G_aload_n (pc' := 17) C dX6_loadPoly_16 1 rfl rfl ?_
    replace h := ob h
    obtain ⟨t4, ht4, h⟩ := h
    refine G_get (pc' := 20) (k := 3) C fi_X8 dX6_loadPoly_17 tw_fl_X6_15 rfl (by decide) (CB_T ht4) rfl rfl ?_
    refine G_iload_n (pc' := 21) C dX6_loadPoly_20 2 rfl rfl ?_
    replace h := ob h
    obtain ⟨ad5, had5, h⟩ := h
    rw [had5]
    replace h := ob h
    obtain ⟨v6, hv6, h⟩ := h
    refine P_bald (pc' := 22) C dX6_loadPoly_21 hv6 rfl ?_
    replace h := ob h
    obtain ⟨z7, hz7, h⟩ := h
    refine C_s_21 (pc' := 23) C dX6_loadPoly_22 hz7 rfl ?_
    refine G_iinc (pc' := 26) C dX6_loadPoly_23 2 rfl rfl [(2, .int (l2 + (1 : Int32))), (0, .ref (o + 20)), (1, .ref l1)] (by decide) rfl rfl ?_
    refine G_goto (tgt := 2) C dX6_loadPoly_26 (by decide) ?_
    exact G_sub (lv' := [(0, .ref (o + 20)), (1, .ref l1), (2, .int (l2 + (1 : Int32)))]) [1, 2, 0] rfl (kc ((l2 + (1 : Int32)), z7) (Option.some.inj h).symm)
set_option maxHeartbeats 4000000 in
set_option maxRecDepth 100000 in
theorem tX6_loadPoly_L41 {κ : KK} {p : Program} {l : Launch} {e : Env} {s : State} {m : MethodId} {args : Array Value} {below : List Frame} {meth : Method} {c : Code} (C : Cx κ p s m args meth c cX6_loadPoly 4 RX6 none) {o : Nat} {v : Option Value} {B' : Heap → Prop} {z : CS} {l1 : Nat} {l2 : Int32} {l3 : Int32} {y : (Int32 × CS) ⊕ CS} (h : fX6_loadPoly_L41 o z l1 l2 l3 = some y) (kc : ∀ u, y = .inl u → GC κ p l e s m args below meth c rmX6_loadPoly 4 o v B' 0 0 u.2 41 [(0, .ref (o + 20)), (1, .ref l1), (2, .int l2), (3, .int u.1)] []) (kx : ∀ w, y = .inr w → GC κ p l e s m args below meth c rmX6_loadPoly 4 o v B' 0 0 w 84 [(0, .ref (o + 20)), (1, .ref l1), (2, .int l2)] []) : GC κ p l e s m args below meth c rmX6_loadPoly 4 o v B' 0 0 z 41 [(0, .ref (o + 20)), (1, .ref l1), (2, .int l2), (3, .int l3)] [] := by
  have J78 : ∀ (z : CS) (l3 : Int32), fX6_loadPoly_L41_J78 o z l1 l2 l3 = some y → GC κ p l e s m args below meth c rmX6_loadPoly 4 o v B' 0 0 z 78 [(0, .ref (o + 20)), (1, .ref l1), (2, .int l2), (3, .int l3)] [] := by
    intro z l3 h
    unfold fX6_loadPoly_L41_J78 at h
    refine G_iinc (pc' := 81) C dX6_loadPoly_78 3 rfl rfl [(3, .int (l3 + (1 : Int32))), (0, .ref (o + 20)), (1, .ref l1), (2, .int l2)] (by decide) rfl rfl ?_
    refine G_goto (tgt := 41) C dX6_loadPoly_81 (by decide) ?_
    exact G_sub (lv' := [(0, .ref (o + 20)), (1, .ref l1), (2, .int l2), (3, .int (l3 + (1 : Int32)))]) [1, 2, 3, 0] rfl (kc ((l3 + (1 : Int32)), z) (Option.some.inj h).symm)
  unfold fX6_loadPoly_L41 at h
  refine G_iload_n (pc' := 42) C dX6_loadPoly_41 3 rfl rfl ?_
  refine G_aload_n (pc' := 43) C dX6_loadPoly_42 1 rfl rfl ?_
  replace h := ob h
  obtain ⟨t10, ht10, h⟩ := h
  refine G_get (pc' := 46) (k := 3) C fi_X8 dX6_loadPoly_43 tw_fl_X6_15 rfl (by decide) (CB_T ht10) rfl rfl ?_
  replace h := ob h
  obtain ⟨ad11, had11, h⟩ := h
  rw [had11]
  replace h := ob h
  obtain ⟨v12, hv12, h⟩ := h
  refine P_lenB (pc' := 47) C dX6_loadPoly_46 hv12 rfl ?_
  refine G_icmp_ge (tgt := 84) (pc' := 50) C dX6_loadPoly_47 (by decide) rfl (fun hc => ?_) (fun hc => ?_)
  · replace h := z_ip hc h
    exact G_sub (lv' := [(0, .ref (o + 20)), (1, .ref l1), (2, .int l2)]) [0, 1, 2] rfl (kx _ (Option.some.inj h).symm)
  · replace h := z_in hc h
    refine G_iload_n (pc' := 51) C dX6_loadPoly_50 3 rfl rfl ?_
    refine G_iload_n (pc' := 52) C dX6_loadPoly_51 2 rfl rfl ?_
    refine G_ishr (pc' := 53) C dX6_loadPoly_52 rfl ?_
    refine G_iconst (pc' := 54) (v := (1 : Int32)) C dX6_loadPoly_53 (by decide) rfl ?_
    refine G_iand (pc' := 55) C dX6_loadPoly_54 rfl ?_
    refine G_iconst (pc' := 56) (v := (1 : Int32)) C dX6_loadPoly_55 (by decide) rfl ?_
    refine G_icmp_ne (tgt := 78) (pc' := 59) C dX6_loadPoly_56 (by decide) rfl (fun hc => ?_) (fun hc => ?_)
    · replace h := z_in hc h
      exact G_sub (lv' := [(0, .ref (o + 20)), (1, .ref l1), (2, .int l2), (3, .int l3)]) [0, 1, 2, 3] rfl (J78 z l3 h)
    · replace h := z_ip hc h
      refine G_aload_n (pc' := 60) C dX6_loadPoly_59 0 rfl rfl ?_
      refine G_get (pc' := 63) (k := 0) C fi_X6 dX6_loadPoly_60 tw_fl_X6_9 rfl (by decide) (CB_rd 20 rfl) rfl rfl ?_
      refine G_iload_n (pc' := 64) C dX6_loadPoly_63 3 rfl rfl ?_
      refine G_dup2 (pc' := 65) C dX6_loadPoly_64 rfl rfl rfl ?_
      replace h := ob h
      obtain ⟨v13, hv13, h⟩ := h
      refine G_ialdV (pc' := 66) C dX6_loadPoly_65 (CB_rd 21 rfl) hv13 rfl ?_
      refine G_aload_n (pc' := 67) C dX6_loadPoly_66 0 rfl rfl ?_
      refine G_get (pc' := 70) (k := 0) C fi_X6 dX6_loadPoly_67 tw_fl_X6_9 rfl (by decide) (CB_rd 20 rfl) rfl rfl ?_
      refine G_iload_n (pc' := 71) C dX6_loadPoly_70 3 rfl rfl ?_
      refine G_iconst (pc' := 72) (v := (1 : Int32)) C dX6_loadPoly_71 (by decide) rfl ?_
      refine G_iload_n (pc' := 73) C dX6_loadPoly_72 2 rfl rfl ?_
      refine G_ishl (pc' := 74) C dX6_loadPoly_73 rfl ?_
      refine G_ixor (pc' := 75) C dX6_loadPoly_74 rfl ?_
      replace h := ob h
      obtain ⟨v14, hv14, h⟩ := h
      refine G_ialdV (pc' := 76) C dX6_loadPoly_75 (CB_rd 21 rfl) hv14 rfl ?_
      refine G_isub (pc' := 77) C dX6_loadPoly_76 rfl ?_
      replace h := ob h
      obtain ⟨z15, hz15, h⟩ := h
      refine C_s_21 (pc' := 78) C dX6_loadPoly_77 hz15 rfl ?_
      exact G_sub (lv' := [(0, .ref (o + 20)), (1, .ref l1), (2, .int l2), (3, .int l3)]) [0, 1, 2, 3] rfl (J78 z15 l3 h)
set_option maxHeartbeats 4000000 in
set_option maxRecDepth 100000 in
theorem tX6_loadPoly_L31 {κ : KK} {p : Program} {l : Launch} {e : Env} {s : State} {m : MethodId} {args : Array Value} {below : List Frame} {meth : Method} {c : Code} (C : Cx κ p s m args meth c cX6_loadPoly 4 RX6 none) {o : Nat} {v : Option Value} {B' : Heap → Prop} {z : CS} {l1 : Nat} {l2 : Int32} {y : (Int32 × CS) ⊕ CS} (h : fX6_loadPoly_L31 o z l1 l2 = some y) (kc : ∀ u, y = .inl u → GC κ p l e s m args below meth c rmX6_loadPoly 4 o v B' 0 0 u.2 31 [(0, .ref (o + 20)), (1, .ref l1), (2, .int u.1)] []) (kx : ∀ w, y = .inr w → GC κ p l e s m args below meth c rmX6_loadPoly 4 o v B' 0 0 w 90 [] []) : GC κ p l e s m args below meth c rmX6_loadPoly 4 o v B' 0 0 z 31 [(0, .ref (o + 20)), (1, .ref l1), (2, .int l2)] [] := by
  unfold fX6_loadPoly_L31 at h
  refine G_iload_n (pc' := 32) C dX6_loadPoly_31 2 rfl rfl ?_
  refine G_aload_n (pc' := 33) C dX6_loadPoly_32 1 rfl rfl ?_
  replace h := ob h
  obtain ⟨t9, ht9, h⟩ := h
  refine G_get (pc' := 36) (k := 1) C fi_X8 dX6_loadPoly_33 tw_fl_X6_21 rfl (by decide) (CB_T ht9) rfl rfl ?_
  refine G_icmp_ge (tgt := 90) (pc' := 39) C dX6_loadPoly_36 (by decide) rfl (fun hc => ?_) (fun hc => ?_)
  · replace h := z_ip hc h
    exact G_sub (lv' := []) [] rfl (kx _ (Option.some.inj h).symm)
  · replace h := z_in hc h
    refine G_iconst (pc' := 40) (v := (0 : Int32)) C dX6_loadPoly_39 (by decide) rfl ?_
    refine G_istore_n (pc' := 41) C dX6_loadPoly_40 [(3, .int (0 : Int32)), (0, .ref (o + 20)), (1, .ref l1), (2, .int l2)] (by decide) rfl rfl ?_
    replace h := ob h
    obtain ⟨e16, hle16, h⟩ := h
    refine G_sub (lv' := [(0, .ref (o + 20)), (1, .ref l1), (2, .int l2), (3, .int (0 : Int32))]) [1, 2, 3, 0] rfl ?_
    refine lpN_ind (body := fun u => fX6_loadPoly_L41 o u.2 l1 l2 u.1) (P := fun u => GC κ p l e s m args below meth c rmX6_loadPoly 4 o v B' 0 0 u.2 41 [(0, .ref (o + 20)), (1, .ref l1), (2, .int l2), (3, .int u.1)] []) (X := fun w => GC κ p l e s m args below meth c rmX6_loadPoly 4 o v B' 0 0 w 84 [(0, .ref (o + 20)), (1, .ref l1), (2, .int l2)] []) (fun u y hb kc kx => tX6_loadPoly_L41 C hb kc kx) _ _ _ hle16 ?_
    refine G_iinc (pc' := 87) C dX6_loadPoly_84 2 rfl rfl [(2, .int (l2 + (1 : Int32))), (0, .ref (o + 20)), (1, .ref l1)] (by decide) rfl rfl ?_
    refine G_goto (tgt := 31) C dX6_loadPoly_87 (by decide) ?_
    exact G_sub (lv' := [(0, .ref (o + 20)), (1, .ref l1), (2, .int (l2 + (1 : Int32)))]) [1, 2, 0] rfl (kc ((l2 + (1 : Int32)), e16) (Option.some.inj h).symm)
set_option maxHeartbeats 4000000 in
set_option maxRecDepth 100000 in
theorem tX6_loadPoly (κ : KK) (l : Launch) (o : Nat) (z : CS) (a1 : Nat) (q : CS) (h : fX6_loadPoly o z a1 = some q) : MM κ l yX6_loadPoly cX6_loadPoly 4 none rmX6_loadPoly (CA o) [.ref (o + 20), .ref a1] (CB κ o z) none (CB κ o q) := by
  refine MM.of (by decide +kernel) (Nat.le_of_ble_eq_true rfl) ?_
  intro p e s m below meth c C hnm
  unfold fX6_loadPoly at h
  refine G_sub (lv' := [(0, .ref (o + 20)), (1, .ref a1)]) [0, 1] rfl ?_
  refine G_iconst (pc' := 1) (v := (0 : Int32)) C dX6_loadPoly_0 (by decide) rfl ?_
  refine G_istore_n (pc' := 2) C dX6_loadPoly_1 [(2, .int (0 : Int32)), (0, .ref (o + 20)), (1, .ref a1)] (by decide) rfl rfl ?_
  replace h := ob h
  obtain ⟨e8, hle8, h⟩ := h
  refine G_sub (lv' := [(0, .ref (o + 20)), (1, .ref a1), (2, .int (0 : Int32))]) [1, 2, 0] rfl ?_
  refine lpN_ind (body := fun u => fX6_loadPoly_L2 o u.2 a1 u.1) (P := fun u => GC κ p l e s m ([.ref (o + 20), .ref a1] : List Value).toArray below meth c rmX6_loadPoly 4 o none (CB κ o q) 0 0 u.2 2 [(0, .ref (o + 20)), (1, .ref a1), (2, .int u.1)] []) (X := fun w => GC κ p l e s m ([.ref (o + 20), .ref a1] : List Value).toArray below meth c rmX6_loadPoly 4 o none (CB κ o q) 0 0 w 29 [(0, .ref (o + 20)), (1, .ref a1)] []) (fun u y hb kc kx => tX6_loadPoly_L2 C hb kc kx) _ _ _ hle8 ?_
  refine G_iconst (pc' := 30) (v := (0 : Int32)) C dX6_loadPoly_29 (by decide) rfl ?_
  refine G_istore_n (pc' := 31) C dX6_loadPoly_30 [(2, .int (0 : Int32)), (0, .ref (o + 20)), (1, .ref a1)] (by decide) rfl rfl ?_
  replace h := ob h
  obtain ⟨e17, hle17, h⟩ := h
  refine G_sub (lv' := [(0, .ref (o + 20)), (1, .ref a1), (2, .int (0 : Int32))]) [1, 2, 0] rfl ?_
  refine lpN_ind (body := fun u => fX6_loadPoly_L31 o u.2 a1 u.1) (P := fun u => GC κ p l e s m ([.ref (o + 20), .ref a1] : List Value).toArray below meth c rmX6_loadPoly 4 o none (CB κ o q) 0 0 u.2 31 [(0, .ref (o + 20)), (1, .ref a1), (2, .int u.1)] []) (X := fun w => GC κ p l e s m ([.ref (o + 20), .ref a1] : List Value).toArray below meth c rmX6_loadPoly 4 o none (CB κ o q) 0 0 w 90 [] []) (fun u y hb kc kx => tX6_loadPoly_L31 C hb kc kx) _ _ _ hle17 ?_
  refine G_widen (k := rmX6_loadPoly.cells) (n := rmX6_loadPoly.slots) (by decide) (by decide) ?_
  obtain rfl := Option.some.inj h
  exact G_vret C dX6_loadPoly_90 (fun _ h => h)
theorem dX9_poly_0 : decode cX9_poly 0 = .ok (.aload_n 0, 1) := by decide +kernel
theorem dX9_poly_1 : decode cX9_poly 1 = .ok (.iload_n 1, 1) := by decide +kernel
theorem dX9_poly_2 : decode cX9_poly 2 = .ok (.invokevirtual 261, 3) := by decide +kernel
theorem dX9_poly_5 : decode cX9_poly 5 = .ok (.ifCond .ne 16, 3) := by decide +kernel
theorem dX9_poly_8 : decode cX9_poly 8 = .ok (.aload_n 0, 1) := by decide +kernel
theorem dX9_poly_9 : decode cX9_poly 9 = .ok (.getfield 17, 3) := by decide +kernel
theorem dX9_poly_12 : decode cX9_poly 12 = .ok (.iload_n 1, 1) := by decide +kernel
theorem dX9_poly_13 : decode cX9_poly 13 = .ok (.aaload, 1) := by decide +kernel
theorem dX9_poly_14 : decode cX9_poly 14 = .ok (.iload_n 2, 1) := by decide +kernel
theorem dX9_poly_15 : decode cX9_poly 15 = .ok (.invokevirtual 176, 3) := by decide +kernel
theorem dX9_poly_18 : decode cX9_poly 18 = .ok (.ifCond .ne 5, 3) := by decide +kernel
theorem dX9_poly_21 : decode cX9_poly 21 = .ok (.iconst 0, 1) := by decide +kernel
theorem dX9_poly_22 : decode cX9_poly 22 = .ok (.ireturn, 1) := by decide +kernel
theorem dX9_poly_23 : decode cX9_poly 23 = .ok (.aload_n 0, 1) := by decide +kernel
theorem dX9_poly_24 : decode cX9_poly 24 = .ok (.getfield 57, 3) := by decide +kernel
theorem dX9_poly_27 : decode cX9_poly 27 = .ok (.aload_n 0, 1) := by decide +kernel
theorem dX9_poly_28 : decode cX9_poly 28 = .ok (.getfield 17, 3) := by decide +kernel
theorem dX9_poly_31 : decode cX9_poly 31 = .ok (.iload_n 1, 1) := by decide +kernel
theorem dX9_poly_32 : decode cX9_poly 32 = .ok (.aaload, 1) := by decide +kernel
theorem dX9_poly_33 : decode cX9_poly 33 = .ok (.invokevirtual 274, 3) := by decide +kernel
theorem dX9_poly_36 : decode cX9_poly 36 = .ok (.aload_n 0, 1) := by decide +kernel
theorem dX9_poly_37 : decode cX9_poly 37 = .ok (.getfield 57, 3) := by decide +kernel
theorem dX9_poly_40 : decode cX9_poly 40 = .ok (.getfield 278, 3) := by decide +kernel
theorem dX9_poly_43 : decode cX9_poly 43 = .ok (.iload_n 2, 1) := by decide +kernel
theorem dX9_poly_44 : decode cX9_poly 44 = .ok (.iaload, 1) := by decide +kernel
theorem dX9_poly_45 : decode cX9_poly 45 = .ok (.ireturn, 1) := by decide +kernel
theorem yd_X9_poly : yX9_poly.cls = RX9 ∧ yX9_poly.cls ≠ "java/lang/invoke/MethodHandle" ∧ yX9_poly.cls ≠ "java/lang/invoke/VarHandle" ∧ (parseMethodDescriptor yX9_poly.desc).map (fun d => d.parameters.length) = some 2 := by decide +kernel
abbrev rmX9_poly : Room := { frames := 3, cells := 0, slots := 0, locals := 64 }
def fX9_poly_J21 (o : Nat) (z : CS) : Option (Int32 × CS) :=
  some ((0 : Int32), z)
def fX9_poly (o : Nat) (z : CS) (a1 : Int32) (a2 : Int32) : Option (Int32 × CS) :=
  (fX9_findingOfTold o z a1).bind fun q1 =>
  if q1.1 = 0 then
    (aQ 8 (q1.2.2.2.1 1) a1).bind fun v2 =>
    (v2).bind fun ad3 =>
    (dT q1.2 ad3).bind fun t5 =>
    (fX8_hasInput o q1.2 ad3 a2).bind fun q4 =>
    if q4 = 0 then
      fX9_poly_J21 o q1.2
    else
      (aQ 8 (q1.2.2.2.1 1) a1).bind fun v6 =>
      (v6).bind fun ad7 =>
      (fX6_loadPoly o q1.2 ad7).bind fun q8 =>
      (aI 256 (q8.2.1 12) a2).bind fun v9 =>
      some (v9, q8)
  else
    fX9_poly_J21 o q1.2
set_option maxHeartbeats 4000000 in
set_option maxRecDepth 100000 in
theorem tX9_poly (κ : KK) (l : Launch) (o : Nat) (z : CS) (a1 : Int32) (a2 : Int32) (q : Int32 × CS) (h : fX9_poly o z a1 a2 = some q) : MM κ l yX9_poly cX9_poly 3 (some .int) rmX9_poly (CA o) [.ref o, .int a1, .int a2] (CB κ o z) (some (Value.int q.1)) (CB κ o q.2) := by
  refine MM.of (by decide +kernel) (Nat.le_of_ble_eq_true rfl) ?_
  intro p e s m below meth c C hnm
  have J21 : ∀ (z : CS), fX9_poly_J21 o z = some q → GC κ p l e s m ([.ref o, .int a1, .int a2] : List Value).toArray below meth c rmX9_poly 3 o (some (Value.int q.1)) (CB κ o q.2) 0 0 z 21 [] [] := by
    intro z h
    unfold fX9_poly_J21 at h
    refine G_iconst (pc' := 22) (v := (0 : Int32)) C dX9_poly_21 (by decide) rfl ?_
    refine G_widen (k := rmX9_poly.cells) (n := rmX9_poly.slots) (by decide) (by decide) ?_
    obtain rfl := Option.some.inj h
    exact G_iret C dX9_poly_22 (fun _ h => h)
  unfold fX9_poly at h
  refine G_sub (lv' := [(0, .ref o), (1, .int a1), (2, .int a2)]) [0, 1, 2] rfl ?_
  refine G_aload_n (pc' := 1) C dX9_poly_0 0 rfl rfl ?_
  refine G_iload_n (pc' := 2) C dX9_poly_1 1 rfl rfl ?_
  replace h := ob h
  obtain ⟨q1, hq1, h⟩ := h
  refine G_cV0 (pc' := 5) C dX9_poly_2 (tX9_findingOfTold κ l o z a1 q1 hq1) (wV tw_ml_X9_261 tw_im_X9_findingOfTold tw_se_X9_X9_findingOfTold tw_in_X9 tw_co_X9_findingOfTold) yd_X9_findingOfTold rfl fi_X9 (CB_rd 0 rfl) rfl rfl (by decide) rfl (Nat.le_of_ble_eq_true rfl) rfl rfl ?_
  refine G_if_ne (tgt := 21) (pc' := 8) C dX9_poly_5 (by decide) rfl (fun hc => ?_) (fun hc => ?_)
  · replace h := z_in hc h
    exact G_sub (lv' := []) [] rfl (J21 q1.2 h)
  · replace h := z_ip hc h
    refine G_aload_n (pc' := 9) C dX9_poly_8 0 rfl rfl ?_
    refine G_get (pc' := 12) (k := 1) C fi_X9 dX9_poly_9 tw_fl_X9_17 rfl (by decide) (CB_rd 0 rfl) rfl rfl ?_
    refine G_iload_n (pc' := 13) C dX9_poly_12 1 rfl rfl ?_
    replace h := ob h
    obtain ⟨v2, hv2, h⟩ := h
    refine G_aald5V (pc' := 14) C dX9_poly_13 (CB_rd 2 rfl) hv2 rfl ?_
    refine G_iload_n (pc' := 15) C dX9_poly_14 2 rfl rfl ?_
    replace h := ob h
    obtain ⟨ad3, had3, h⟩ := h
    subst had3
    replace h := ob h
    obtain ⟨t5, ht5, h⟩ := h
    replace h := ob h
    obtain ⟨q4, hq4, h⟩ := h
    refine G_cV0 (pc' := 18) C dX9_poly_15 (tX8_hasInput κ l o q1.2 ad3 a2 q4 hq4) (wV tw_ml_X9_176 tw_im_X8_hasInput tw_se_X8_X8_hasInput tw_in_X8 tw_co_X8_hasInput) yd_X8_hasInput rfl fi_X8 (CB_T ht5) rfl rfl (by decide) rfl (Nat.le_of_ble_eq_true rfl) rfl rfl ?_
    refine G_if_ne (tgt := 23) (pc' := 21) C dX9_poly_18 (by decide) rfl (fun hc => ?_) (fun hc => ?_)
    · replace h := z_in hc h
      refine G_aload_n (pc' := 24) C dX9_poly_23 0 rfl rfl ?_
      refine G_get (pc' := 27) (k := 8) C fi_X9 dX9_poly_24 tw_fl_X9_57 rfl (by decide) (CB_rd 0 rfl) rfl rfl ?_
      refine G_aload_n (pc' := 28) C dX9_poly_27 0 rfl rfl ?_
      refine G_get (pc' := 31) (k := 1) C fi_X9 dX9_poly_28 tw_fl_X9_17 rfl (by decide) (CB_rd 0 rfl) rfl rfl ?_
      refine G_iload_n (pc' := 32) C dX9_poly_31 1 rfl rfl ?_
      replace h := ob h
      obtain ⟨v6, hv6, h⟩ := h
      refine G_aald5V (pc' := 33) C dX9_poly_32 (CB_rd 2 rfl) hv6 rfl ?_
      replace h := ob h
      obtain ⟨ad7, had7, h⟩ := h
      subst had7
      replace h := ob h
      obtain ⟨q8, hq8, h⟩ := h
      refine G_cV0 (pc' := 36) C dX9_poly_33 (tX6_loadPoly κ l o q1.2 ad7 q8 hq8) (wV tw_ml_X9_274 tw_im_X6_loadPoly tw_se_X6_X6_loadPoly tw_in_X6 tw_co_X6_loadPoly) yd_X6_loadPoly rfl fi_X6 (CB_rd 20 rfl) rfl rfl (by decide) rfl (Nat.le_of_ble_eq_true rfl) rfl rfl ?_
      refine G_aload_n (pc' := 37) C dX9_poly_36 0 rfl rfl ?_
      refine G_get (pc' := 40) (k := 8) C fi_X9 dX9_poly_37 tw_fl_X9_57 rfl (by decide) (CB_rd 0 rfl) rfl rfl ?_
      refine G_get (pc' := 43) (k := 0) C fi_X6 dX9_poly_40 tw_fl_X9_278 rfl (by decide) (CB_rd 20 rfl) rfl rfl ?_
      refine G_iload_n (pc' := 44) C dX9_poly_43 2 rfl rfl ?_
      replace h := ob h
      obtain ⟨v9, hv9, h⟩ := h
      refine G_ialdV (pc' := 45) C dX9_poly_44 (CB_rd 21 rfl) hv9 rfl ?_
      refine G_widen (k := rmX9_poly.cells) (n := rmX9_poly.slots) (by decide) (by decide) ?_
      obtain rfl := Option.some.inj h
      exact G_iret C dX9_poly_45 (fun _ h => h)
    · replace h := z_ip hc h
      exact G_sub (lv' := []) [] rfl (J21 q1.2 h)
theorem dX9_degree_0 : decode cX9_degree 0 = .ok (.aload_n 0, 1) := by decide +kernel
theorem dX9_degree_1 : decode cX9_degree 1 = .ok (.iload_n 1, 1) := by decide +kernel
theorem dX9_degree_2 : decode cX9_degree 2 = .ok (.invokevirtual 261, 3) := by decide +kernel
theorem dX9_degree_5 : decode cX9_degree 5 = .ok (.istore_n 2, 1) := by decide +kernel
theorem dX9_degree_6 : decode cX9_degree 6 = .ok (.iload_n 2, 1) := by decide +kernel
theorem dX9_degree_7 : decode cX9_degree 7 = .ok (.ifCond .eq 5, 3) := by decide +kernel
theorem dX9_degree_10 : decode cX9_degree 10 = .ok (.iload_n 2, 1) := by decide +kernel
theorem dX9_degree_11 : decode cX9_degree 11 = .ok (.ireturn, 1) := by decide +kernel
theorem dX9_degree_12 : decode cX9_degree 12 = .ok (.aload_n 0, 1) := by decide +kernel
theorem dX9_degree_13 : decode cX9_degree 13 = .ok (.getfield 17, 3) := by decide +kernel
theorem dX9_degree_16 : decode cX9_degree 16 = .ok (.iload_n 1, 1) := by decide +kernel
theorem dX9_degree_17 : decode cX9_degree 17 = .ok (.aaload, 1) := by decide +kernel
theorem dX9_degree_18 : decode cX9_degree 18 = .ok (.astore_n 3, 1) := by decide +kernel
theorem dX9_degree_19 : decode cX9_degree 19 = .ok (.aload_n 0, 1) := by decide +kernel
theorem dX9_degree_20 : decode cX9_degree 20 = .ok (.getfield 57, 3) := by decide +kernel
theorem dX9_degree_23 : decode cX9_degree 23 = .ok (.aload_n 3, 1) := by decide +kernel
theorem dX9_degree_24 : decode cX9_degree 24 = .ok (.invokevirtual 274, 3) := by decide +kernel
theorem dX9_degree_27 : decode cX9_degree 27 = .ok (.iconst 0, 1) := by decide +kernel
theorem dX9_degree_28 : decode cX9_degree 28 = .ok (.istore 4, 2) := by decide +kernel
theorem dX9_degree_30 : decode cX9_degree 30 = .ok (.iconst 0, 1) := by decide +kernel
theorem dX9_degree_31 : decode cX9_degree 31 = .ok (.istore 5, 2) := by decide +kernel
theorem dX9_degree_33 : decode cX9_degree 33 = .ok (.iload 5, 2) := by decide +kernel
theorem dX9_degree_35 : decode cX9_degree 35 = .ok (.aload_n 3, 1) := by decide +kernel
theorem dX9_degree_36 : decode cX9_degree 36 = .ok (.getfield 155, 3) := by decide +kernel
theorem dX9_degree_39 : decode cX9_degree 39 = .ok (.arraylength, 1) := by decide +kernel
theorem dX9_degree_40 : decode cX9_degree 40 = .ok (.if_icmp .ge 34, 3) := by decide +kernel
theorem dX9_degree_43 : decode cX9_degree 43 = .ok (.aload_n 0, 1) := by decide +kernel
theorem dX9_degree_44 : decode cX9_degree 44 = .ok (.getfield 57, 3) := by decide +kernel
theorem dX9_degree_47 : decode cX9_degree 47 = .ok (.getfield 278, 3) := by decide +kernel
theorem dX9_degree_50 : decode cX9_degree 50 = .ok (.iload 5, 2) := by decide +kernel
theorem dX9_degree_52 : decode cX9_degree 52 = .ok (.iaload, 1) := by decide +kernel
theorem dX9_degree_53 : decode cX9_degree 53 = .ok (.ifCond .eq 15, 3) := by decide +kernel
theorem dX9_degree_56 : decode cX9_degree 56 = .ok (.iload 4, 2) := by decide +kernel
theorem dX9_degree_58 : decode cX9_degree 58 = .ok (.iload 5, 2) := by decide +kernel
theorem dX9_degree_60 : decode cX9_degree 60 = .ok (.invokestatic 171, 3) := by decide +kernel
theorem dX9_degree_63 : decode cX9_degree 63 = .ok (.invokestatic 280, 3) := by decide +kernel
theorem dX9_degree_66 : decode cX9_degree 66 = .ok (.istore 4, 2) := by decide +kernel
theorem dX9_degree_68 : decode cX9_degree 68 = .ok (.iinc 5 1, 3) := by decide +kernel
theorem dX9_degree_71 : decode cX9_degree 71 = .ok (.goto (-38), 3) := by decide +kernel
theorem dX9_degree_74 : decode cX9_degree 74 = .ok (.iload 4, 2) := by decide +kernel
theorem dX9_degree_76 : decode cX9_degree 76 = .ok (.ireturn, 1) := by decide +kernel
theorem yd_X9_degree : yX9_degree.cls = RX9 ∧ yX9_degree.cls ≠ "java/lang/invoke/MethodHandle" ∧ yX9_degree.cls ≠ "java/lang/invoke/VarHandle" ∧ (parseMethodDescriptor yX9_degree.desc).map (fun d => d.parameters.length) = some 1 := by decide +kernel
abbrev rmX9_degree : Room := { frames := 3, cells := 0, slots := 0, locals := 64 }
def fX9_degree_L33_J68 (o : Nat) (z : CS) (l3 : Nat) (l4 : Int32) (l5 : Int32) : Option ((Int32 × Int32) ⊕ Int32) :=
  some (.inl (l4, (l5 + (1 : Int32))))
def fX9_degree_L33 (o : Nat) (z : CS) (l3 : Nat) (l4 : Int32) (l5 : Int32) : Option ((Int32 × Int32) ⊕ Int32) :=
  (dT z l3).bind fun t5 =>
  (t5.2.2.2).bind fun ad6 =>
  (lnB z ad6).bind fun v7 =>
  if v7 ≤ l5 then
    some (.inr l4)
  else
    (aI 256 (z.2.1 12) l5).bind fun v8 =>
    if v8 = 0 then
      fX9_degree_L33_J68 o z l3 l4 l5
    else
      (fJ6_bitCount_0f7a4 l5).bind fun q9 =>
      fX9_degree_L33_J68 o z l3 (if l4 < q9 then q9 else l4) l5
def fX9_degree (o : Nat) (z : CS) (a1 : Int32) : Option (Int32 × CS) :=
  (fX9_findingOfTold o z a1).bind fun q1 =>
  if q1.1 = 0 then
    (aQ 8 (q1.2.2.2.1 1) a1).bind fun v2 =>
    (v2).bind fun ad3 =>
    (fX6_loadPoly o q1.2 ad3).bind fun q4 =>
    (lpN (fun u => fX9_degree_L33 o q4 ad3 u.1 u.2) bigN ((0 : Int32), (0 : Int32))).bind fun e10 =>
    some (e10, q4)
  else
    some (q1.1, q1.2)
set_option maxHeartbeats 4000000 in
set_option maxRecDepth 100000 in
theorem tX9_degree_L33 {κ : KK} {p : Program} {l : Launch} {e : Env} {s : State} {m : MethodId} {args : Array Value} {below : List Frame} {meth : Method} {c : Code} (C : Cx κ p s m args meth c cX9_degree 6 RX9 (some .int)) {o : Nat} {v : Option Value} {B' : Heap → Prop} {z : CS} {l3 : Nat} {l4 : Int32} {l5 : Int32} {y : (Int32 × Int32) ⊕ Int32} (h : fX9_degree_L33 o z l3 l4 l5 = some y) (kc : ∀ u, y = .inl u → GC κ p l e s m args below meth c rmX9_degree 6 o v B' 0 0 z 33 [(0, .ref o), (3, .ref l3), (4, .int u.1), (5, .int u.2)] []) (kx : ∀ w, y = .inr w → GC κ p l e s m args below meth c rmX9_degree 6 o v B' 0 0 z 74 [(4, .int w)] []) : GC κ p l e s m args below meth c rmX9_degree 6 o v B' 0 0 z 33 [(0, .ref o), (3, .ref l3), (4, .int l4), (5, .int l5)] [] := by
  have J68 : ∀ (l4 : Int32) (l5 : Int32), fX9_degree_L33_J68 o z l3 l4 l5 = some y → GC κ p l e s m args below meth c rmX9_degree 6 o v B' 0 0 z 68 [(0, .ref o), (3, .ref l3), (4, .int l4), (5, .int l5)] [] := by
    intro l4 l5 h
    unfold fX9_degree_L33_J68 at h
    refine G_iinc (pc' := 71) C dX9_degree_68 3 rfl rfl [(5, .int (l5 + (1 : Int32))), (0, .ref o), (3, .ref l3), (4, .int l4)] (by decide) rfl rfl ?_
    refine G_goto (tgt := 33) C dX9_degree_71 (by decide) ?_
    exact G_sub (lv' := [(0, .ref o), (3, .ref l3), (4, .int l4), (5, .int (l5 + (1 : Int32)))]) [1, 2, 3, 0] rfl (kc (l4, (l5 + (1 : Int32))) (Option.some.inj h).symm)
  unfold fX9_degree_L33 at h
  refine G_iload (pc' := 35) C dX9_degree_33 3 rfl rfl ?_
  refine G_aload_n (pc' := 36) C dX9_degree_35 1 rfl rfl ?_
  replace h := ob h
  obtain ⟨t5, ht5, h⟩ := h
  refine G_get (pc' := 39) (k := 3) C fi_X8 dX9_degree_36 tw_fl_X9_155 rfl (by decide) (CB_T ht5) rfl rfl ?_
  replace h := ob h
  obtain ⟨ad6, had6, h⟩ := h
  rw [had6]
  replace h := ob h
  obtain ⟨v7, hv7, h⟩ := h
  refine P_lenB (pc' := 40) C dX9_degree_39 hv7 rfl ?_
  refine G_icmp_ge (tgt := 74) (pc' := 43) C dX9_degree_40 (by decide) rfl (fun hc => ?_) (fun hc => ?_)
  · replace h := z_ip hc h
    exact G_sub (lv' := [(4, .int l4)]) [2] rfl (kx _ (Option.some.inj h).symm)
  · replace h := z_in hc h
    refine G_aload_n (pc' := 44) C dX9_degree_43 0 rfl rfl ?_
    refine G_get (pc' := 47) (k := 8) C fi_X9 dX9_degree_44 tw_fl_X9_57 rfl (by decide) (CB_rd 0 rfl) rfl rfl ?_
    refine G_get (pc' := 50) (k := 0) C fi_X6 dX9_degree_47 tw_fl_X9_278 rfl (by decide) (CB_rd 20 rfl) rfl rfl ?_
    refine G_iload (pc' := 52) C dX9_degree_50 3 rfl rfl ?_
    replace h := ob h
    obtain ⟨v8, hv8, h⟩ := h
    refine G_ialdV (pc' := 53) C dX9_degree_52 (CB_rd 21 rfl) hv8 rfl ?_
    refine G_if_eq (tgt := 68) (pc' := 56) C dX9_degree_53 (by decide) rfl (fun hc => ?_) (fun hc => ?_)
    · replace h := z_ip hc h
      exact G_sub (lv' := [(0, .ref o), (3, .ref l3), (4, .int l4), (5, .int l5)]) [0, 1, 2, 3] rfl (J68 l4 l5 h)
    · replace h := z_in hc h
      refine G_iload (pc' := 58) C dX9_degree_56 2 rfl rfl ?_
      refine G_iload (pc' := 60) C dX9_degree_58 3 rfl rfl ?_
      replace h := ob h
      obtain ⟨q9, hq9, h⟩ := h
      refine G_cS0 (pc' := 63) C dX9_degree_60 (tJ6_bitCount_0f7a4 κ l (CA o) (CB κ o z) l5 q9 hq9) (wS tw_ml_X9_171 tw_st_J6_bitCount_0f7a4 tw_co_J6_bitCount_0f7a4 tw_in_J6) yd_J6_bitCount_0f7a4 rfl rfl rfl (by decide) rfl (Nat.le_of_ble_eq_true rfl) rfl rfl ?_
      refine G_mmax (pc' := 66) C dX9_degree_63 tw_ml_X9_280 (by decide) rfl ?_
      refine G_istore (pc' := 68) C dX9_degree_66 [(4, .int (if l4 < q9 then q9 else l4)), (0, .ref o), (3, .ref l3), (5, .int l5)] (by decide) rfl rfl ?_
      exact G_sub (lv' := [(0, .ref o), (3, .ref l3), (4, .int (if l4 < q9 then q9 else l4)), (5, .int l5)]) [1, 2, 0, 3] rfl (J68 (if l4 < q9 then q9 else l4) l5 h)
set_option maxHeartbeats 4000000 in
set_option maxRecDepth 100000 in
theorem tX9_degree (κ : KK) (l : Launch) (o : Nat) (z : CS) (a1 : Int32) (q : Int32 × CS) (h : fX9_degree o z a1 = some q) : MM κ l yX9_degree cX9_degree 6 (some .int) rmX9_degree (CA o) [.ref o, .int a1] (CB κ o z) (some (Value.int q.1)) (CB κ o q.2) := by
  refine MM.of (by decide +kernel) (Nat.le_of_ble_eq_true rfl) ?_
  intro p e s m below meth c C hnm
  unfold fX9_degree at h
  refine G_sub (lv' := [(0, .ref o), (1, .int a1)]) [0, 1] rfl ?_
  refine G_aload_n (pc' := 1) C dX9_degree_0 0 rfl rfl ?_
  refine G_iload_n (pc' := 2) C dX9_degree_1 1 rfl rfl ?_
  replace h := ob h
  obtain ⟨q1, hq1, h⟩ := h
  refine G_cV0 (pc' := 5) C dX9_degree_2 (tX9_findingOfTold κ l o z a1 q1 hq1) (wV tw_ml_X9_261 tw_im_X9_findingOfTold tw_se_X9_X9_findingOfTold tw_in_X9 tw_co_X9_findingOfTold) yd_X9_findingOfTold rfl fi_X9 (CB_rd 0 rfl) rfl rfl (by decide) rfl (Nat.le_of_ble_eq_true rfl) rfl rfl ?_
  refine G_istore_n (pc' := 6) C dX9_degree_5 [(2, .int q1.1), (0, .ref o), (1, .int a1)] (by decide) rfl rfl ?_
  refine G_iload_n (pc' := 7) C dX9_degree_6 0 rfl rfl ?_
  refine G_if_eq (tgt := 12) (pc' := 10) C dX9_degree_7 (by decide) rfl (fun hc => ?_) (fun hc => ?_)
  · replace h := z_ip hc h
    refine G_aload_n (pc' := 13) C dX9_degree_12 1 rfl rfl ?_
    refine G_get (pc' := 16) (k := 1) C fi_X9 dX9_degree_13 tw_fl_X9_17 rfl (by decide) (CB_rd 0 rfl) rfl rfl ?_
    refine G_iload_n (pc' := 17) C dX9_degree_16 2 rfl rfl ?_
    replace h := ob h
    obtain ⟨v2, hv2, h⟩ := h
    refine G_aald5V (pc' := 18) C dX9_degree_17 (CB_rd 2 rfl) hv2 rfl ?_
    refine G_qstore_n (pc' := 19) C dX9_degree_18 [(3, va_rf v2), (2, .int q1.1), (0, .ref o), (1, .int a1)] (by decide) rfl rfl ?_
    refine G_aload_n (pc' := 20) C dX9_degree_19 2 rfl rfl ?_
    refine G_get (pc' := 23) (k := 8) C fi_X9 dX9_degree_20 tw_fl_X9_57 rfl (by decide) (CB_rd 0 rfl) rfl rfl ?_
    refine G_qload_n (pc' := 24) C dX9_degree_23 0 rfl rfl ?_
    replace h := ob h
    obtain ⟨ad3, had3, h⟩ := h
    subst had3
    replace h := ob h
    obtain ⟨q4, hq4, h⟩ := h
    refine G_cV0 (pc' := 27) C dX9_degree_24 (tX6_loadPoly κ l o q1.2 ad3 q4 hq4) (wV tw_ml_X9_274 tw_im_X6_loadPoly tw_se_X6_X6_loadPoly tw_in_X6 tw_co_X6_loadPoly) yd_X6_loadPoly rfl fi_X6 (CB_rd 20 rfl) rfl rfl (by decide) rfl (Nat.le_of_ble_eq_true rfl) rfl rfl ?_
    refine G_iconst (pc' := 28) (v := (0 : Int32)) C dX9_degree_27 (by decide) rfl ?_
    refine G_istore (pc' := 30) C dX9_degree_28 [(4, .int (0 : Int32)), (3, .ref ad3), (2, .int q1.1), (0, .ref o), (1, .int a1)] (by decide) rfl rfl ?_
    refine G_iconst (pc' := 31) (v := (0 : Int32)) C dX9_degree_30 (by decide) rfl ?_
    refine G_istore (pc' := 33) C dX9_degree_31 [(5, .int (0 : Int32)), (4, .int (0 : Int32)), (3, .ref ad3), (2, .int q1.1), (0, .ref o), (1, .int a1)] (by decide) rfl rfl ?_
    replace h := ob h
    obtain ⟨e10, hle10, h⟩ := h
    refine G_sub (lv' := [(0, .ref o), (3, .ref ad3), (4, .int (0 : Int32)), (5, .int (0 : Int32))]) [4, 2, 1, 0] rfl ?_
    refine lpN_ind (body := fun u => fX9_degree_L33 o q4 ad3 u.1 u.2) (P := fun u => GC κ p l e s m ([.ref o, .int a1] : List Value).toArray below meth c rmX9_degree 6 o (some (Value.int q.1)) (CB κ o q.2) 0 0 q4 33 [(0, .ref o), (3, .ref ad3), (4, .int u.1), (5, .int u.2)] []) (X := fun w => GC κ p l e s m ([.ref o, .int a1] : List Value).toArray below meth c rmX9_degree 6 o (some (Value.int q.1)) (CB κ o q.2) 0 0 q4 74 [(4, .int w)] []) (fun u y hb kc kx => tX9_degree_L33 C hb kc kx) _ _ _ hle10 ?_
    refine G_iload (pc' := 76) C dX9_degree_74 0 rfl rfl ?_
    refine G_widen (k := rmX9_degree.cells) (n := rmX9_degree.slots) (by decide) (by decide) ?_
    obtain rfl := Option.some.inj h
    exact G_iret C dX9_degree_76 (fun _ h => h)
  · replace h := z_in hc h
    refine G_iload_n (pc' := 11) C dX9_degree_10 0 rfl rfl ?_
    refine G_widen (k := rmX9_degree.cells) (n := rmX9_degree.slots) (by decide) (by decide) ?_
    obtain rfl := Option.some.inj h
    exact G_iret C dX9_degree_11 (fun _ h => h)
theorem dX6_loadSigns_0 : decode cX6_loadSigns 0 = .ok (.iconst 0, 1) := by decide +kernel
theorem dX6_loadSigns_1 : decode cX6_loadSigns 1 = .ok (.istore_n 2, 1) := by decide +kernel
theorem dX6_loadSigns_2 : decode cX6_loadSigns 2 = .ok (.iload_n 2, 1) := by decide +kernel
theorem dX6_loadSigns_3 : decode cX6_loadSigns 3 = .ok (.aload_n 1, 1) := by decide +kernel
theorem dX6_loadSigns_4 : decode cX6_loadSigns 4 = .ok (.getfield 15, 3) := by decide +kernel
theorem dX6_loadSigns_7 : decode cX6_loadSigns 7 = .ok (.arraylength, 1) := by decide +kernel
theorem dX6_loadSigns_8 : decode cX6_loadSigns 8 = .ok (.if_icmp .ge 25, 3) := by decide +kernel
theorem dX6_loadSigns_11 : decode cX6_loadSigns 11 = .ok (.aload_n 0, 1) := by decide +kernel
theorem dX6_loadSigns_12 : decode cX6_loadSigns 12 = .ok (.getfield 9, 3) := by decide +kernel
theorem dX6_loadSigns_15 : decode cX6_loadSigns 15 = .ok (.iload_n 2, 1) := by decide +kernel
theorem dX6_loadSigns_16 : decode cX6_loadSigns 16 = .ok (.iconst 1, 1) := by decide +kernel
theorem dX6_loadSigns_17 : decode cX6_loadSigns 17 = .ok (.iconst 2, 1) := by decide +kernel
theorem dX6_loadSigns_18 : decode cX6_loadSigns 18 = .ok (.aload_n 1, 1) := by decide +kernel
theorem dX6_loadSigns_19 : decode cX6_loadSigns 19 = .ok (.getfield 15, 3) := by decide +kernel
theorem dX6_loadSigns_22 : decode cX6_loadSigns 22 = .ok (.iload_n 2, 1) := by decide +kernel
theorem dX6_loadSigns_23 : decode cX6_loadSigns 23 = .ok (.baload, 1) := by decide +kernel
theorem dX6_loadSigns_24 : decode cX6_loadSigns 24 = .ok (.imul, 1) := by decide +kernel
theorem dX6_loadSigns_25 : decode cX6_loadSigns 25 = .ok (.isub, 1) := by decide +kernel
theorem dX6_loadSigns_26 : decode cX6_loadSigns 26 = .ok (.iastore, 1) := by decide +kernel
theorem dX6_loadSigns_27 : decode cX6_loadSigns 27 = .ok (.iinc 2 1, 3) := by decide +kernel
theorem dX6_loadSigns_30 : decode cX6_loadSigns 30 = .ok (.goto (-28), 3) := by decide +kernel
theorem dX6_loadSigns_33 : decode cX6_loadSigns 33 = .ok (.iconst 0, 1) := by decide +kernel
theorem dX6_loadSigns_34 : decode cX6_loadSigns 34 = .ok (.istore_n 2, 1) := by decide +kernel
theorem dX6_loadSigns_35 : decode cX6_loadSigns 35 = .ok (.iload_n 2, 1) := by decide +kernel
theorem dX6_loadSigns_36 : decode cX6_loadSigns 36 = .ok (.aload_n 1, 1) := by decide +kernel
theorem dX6_loadSigns_37 : decode cX6_loadSigns 37 = .ok (.getfield 21, 3) := by decide +kernel
theorem dX6_loadSigns_40 : decode cX6_loadSigns 40 = .ok (.if_icmp .ge 81, 3) := by decide +kernel
theorem dX6_loadSigns_43 : decode cX6_loadSigns 43 = .ok (.iconst 0, 1) := by decide +kernel
theorem dX6_loadSigns_44 : decode cX6_loadSigns 44 = .ok (.istore_n 3, 1) := by decide +kernel
theorem dX6_loadSigns_45 : decode cX6_loadSigns 45 = .ok (.iload_n 3, 1) := by decide +kernel
theorem dX6_loadSigns_46 : decode cX6_loadSigns 46 = .ok (.aload_n 1, 1) := by decide +kernel
theorem dX6_loadSigns_47 : decode cX6_loadSigns 47 = .ok (.getfield 15, 3) := by decide +kernel
theorem dX6_loadSigns_50 : decode cX6_loadSigns 50 = .ok (.arraylength, 1) := by decide +kernel
theorem dX6_loadSigns_51 : decode cX6_loadSigns 51 = .ok (.if_icmp .ge 64, 3) := by decide +kernel
theorem dX6_loadSigns_54 : decode cX6_loadSigns 54 = .ok (.iload_n 3, 1) := by decide +kernel
theorem dX6_loadSigns_55 : decode cX6_loadSigns 55 = .ok (.iload_n 2, 1) := by decide +kernel
theorem dX6_loadSigns_56 : decode cX6_loadSigns 56 = .ok (.ishr, 1) := by decide +kernel
theorem dX6_loadSigns_57 : decode cX6_loadSigns 57 = .ok (.iconst 1, 1) := by decide +kernel
theorem dX6_loadSigns_58 : decode cX6_loadSigns 58 = .ok (.iand, 1) := by decide +kernel
theorem dX6_loadSigns_59 : decode cX6_loadSigns 59 = .ok (.iconst 1, 1) := by decide +kernel
theorem dX6_loadSigns_60 : decode cX6_loadSigns 60 = .ok (.if_icmp .ne 49, 3) := by decide +kernel
theorem dX6_loadSigns_63 : decode cX6_loadSigns 63 = .ok (.aload_n 0, 1) := by decide +kernel
theorem dX6_loadSigns_64 : decode cX6_loadSigns 64 = .ok (.getfield 9, 3) := by decide +kernel
theorem dX6_loadSigns_67 : decode cX6_loadSigns 67 = .ok (.iload_n 3, 1) := by decide +kernel
theorem dX6_loadSigns_68 : decode cX6_loadSigns 68 = .ok (.iconst 1, 1) := by decide +kernel
theorem dX6_loadSigns_69 : decode cX6_loadSigns 69 = .ok (.iload_n 2, 1) := by decide +kernel
theorem dX6_loadSigns_70 : decode cX6_loadSigns 70 = .ok (.ishl, 1) := by decide +kernel
theorem dX6_loadSigns_71 : decode cX6_loadSigns 71 = .ok (.ixor, 1) := by decide +kernel
theorem dX6_loadSigns_72 : decode cX6_loadSigns 72 = .ok (.iaload, 1) := by decide +kernel
theorem dX6_loadSigns_73 : decode cX6_loadSigns 73 = .ok (.istore 4, 2) := by decide +kernel
theorem dX6_loadSigns_75 : decode cX6_loadSigns 75 = .ok (.aload_n 0, 1) := by decide +kernel
theorem dX6_loadSigns_76 : decode cX6_loadSigns 76 = .ok (.getfield 9, 3) := by decide +kernel
theorem dX6_loadSigns_79 : decode cX6_loadSigns 79 = .ok (.iload_n 3, 1) := by decide +kernel
theorem dX6_loadSigns_80 : decode cX6_loadSigns 80 = .ok (.iaload, 1) := by decide +kernel
theorem dX6_loadSigns_81 : decode cX6_loadSigns 81 = .ok (.istore 5, 2) := by decide +kernel
theorem dX6_loadSigns_83 : decode cX6_loadSigns 83 = .ok (.aload_n 0, 1) := by decide +kernel
theorem dX6_loadSigns_84 : decode cX6_loadSigns 84 = .ok (.getfield 9, 3) := by decide +kernel
theorem dX6_loadSigns_87 : decode cX6_loadSigns 87 = .ok (.iload_n 3, 1) := by decide +kernel
theorem dX6_loadSigns_88 : decode cX6_loadSigns 88 = .ok (.iconst 1, 1) := by decide +kernel
theorem dX6_loadSigns_89 : decode cX6_loadSigns 89 = .ok (.iload_n 2, 1) := by decide +kernel
theorem dX6_loadSigns_90 : decode cX6_loadSigns 90 = .ok (.ishl, 1) := by decide +kernel
theorem dX6_loadSigns_91 : decode cX6_loadSigns 91 = .ok (.ixor, 1) := by decide +kernel
theorem dX6_loadSigns_92 : decode cX6_loadSigns 92 = .ok (.iload 4, 2) := by decide +kernel
theorem dX6_loadSigns_94 : decode cX6_loadSigns 94 = .ok (.iload 5, 2) := by decide +kernel
theorem dX6_loadSigns_96 : decode cX6_loadSigns 96 = .ok (.iadd, 1) := by decide +kernel
theorem dX6_loadSigns_97 : decode cX6_loadSigns 97 = .ok (.iastore, 1) := by decide +kernel
theorem dX6_loadSigns_98 : decode cX6_loadSigns 98 = .ok (.aload_n 0, 1) := by decide +kernel
theorem dX6_loadSigns_99 : decode cX6_loadSigns 99 = .ok (.getfield 9, 3) := by decide +kernel
theorem dX6_loadSigns_102 : decode cX6_loadSigns 102 = .ok (.iload_n 3, 1) := by decide +kernel
theorem dX6_loadSigns_103 : decode cX6_loadSigns 103 = .ok (.iload 4, 2) := by decide +kernel
theorem dX6_loadSigns_105 : decode cX6_loadSigns 105 = .ok (.iload 5, 2) := by decide +kernel
theorem dX6_loadSigns_107 : decode cX6_loadSigns 107 = .ok (.isub, 1) := by decide +kernel
theorem dX6_loadSigns_108 : decode cX6_loadSigns 108 = .ok (.iastore, 1) := by decide +kernel
theorem dX6_loadSigns_109 : decode cX6_loadSigns 109 = .ok (.iinc 3 1, 3) := by decide +kernel
theorem dX6_loadSigns_112 : decode cX6_loadSigns 112 = .ok (.goto (-67), 3) := by decide +kernel
theorem dX6_loadSigns_115 : decode cX6_loadSigns 115 = .ok (.iinc 2 1, 3) := by decide +kernel
theorem dX6_loadSigns_118 : decode cX6_loadSigns 118 = .ok (.goto (-83), 3) := by decide +kernel
theorem dX6_loadSigns_121 : decode cX6_loadSigns 121 = .ok (.return_, 1) := by decide +kernel
theorem yd_X6_loadSigns : yX6_loadSigns.cls = RX6 ∧ yX6_loadSigns.cls ≠ "java/lang/invoke/MethodHandle" ∧ yX6_loadSigns.cls ≠ "java/lang/invoke/VarHandle" ∧ (parseMethodDescriptor yX6_loadSigns.desc).map (fun d => d.parameters.length) = some 1 := by decide +kernel
abbrev rmX6_loadSigns : Room := { frames := 0, cells := 0, slots := 0, locals := 0 }
def fX6_loadSigns_L2 (o : Nat) (z : CS) (l1 : Nat) (l2 : Int32) : Option ((Int32 × CS) ⊕ CS) :=
  (dT z l1).bind fun t1 =>
  (t1.2.2.2).bind fun ad2 =>
  (lnB z ad2).bind fun v3 =>
  if v3 ≤ l2 then
    some (.inr z)
  else
    (dT z l1).bind fun t4 =>
    (t4.2.2.2).bind fun ad5 =>
    (rdB z ad5 l2).bind fun v6 =>
    (csA z 12 256 l2 ((1 : Int32) - ((2 : Int32) * v6))).bind fun z7 =>
    some (.inl ((l2 + (1 : Int32)), z7))
def fX6_loadSigns_L45_J109 (o : Nat) (z : CS) (l1 : Nat) (l2 : Int32) (l3 : Int32) : Option ((Int32 × CS) ⊕ CS) :=
  some (.inl ((l3 + (1 : Int32)), z))
def fX6_loadSigns_L45 (o : Nat) (z : CS) (l1 : Nat) (l2 : Int32) (l3 : Int32) : Option ((Int32 × CS) ⊕ CS) :=
  (dT z l1).bind fun t10 =>
  (t10.2.2.2).bind fun ad11 =>
  (lnB z ad11).bind fun v12 =>
  if v12 ≤ l3 then
    some (.inr z)
  else
    if ((l3 >>> (l2 &&& 31)) &&& (1 : Int32)) = (1 : Int32) then
      (aI 256 (z.2.1 12) (l3 ^^^ ((1 : Int32) <<< (l2 &&& 31)))).bind fun v13 =>
      (aI 256 (z.2.1 12) l3).bind fun v14 =>
      (csA z 12 256 (l3 ^^^ ((1 : Int32) <<< (l2 &&& 31))) (v13 + v14)).bind fun z15 =>
      (csA z15 12 256 l3 (v13 - v14)).bind fun z16 =>
      fX6_loadSigns_L45_J109 o z16 l1 l2 l3
    else
      fX6_loadSigns_L45_J109 o z l1 l2 l3
def fX6_loadSigns_L35 (o : Nat) (z : CS) (l1 : Nat) (l2 : Int32) : Option ((Int32 × CS) ⊕ CS) :=
  (dT z l1).bind fun t9 =>
  if t9.2.1 ≤ l2 then
    some (.inr z)
  else
    (lpN (fun u => fX6_loadSigns_L45 o u.2 l1 l2 u.1) bigN ((0 : Int32), z)).bind fun e17 =>
    some (.inl ((l2 + (1 : Int32)), e17))
def fX6_loadSigns (o : Nat) (z : CS) (a1 : Nat) : Option (CS) :=
  (lpN (fun u => fX6_loadSigns_L2 o u.2 a1 u.1) bigN ((0 : Int32), z)).bind fun e8 =>
  (lpN (fun u => fX6_loadSigns_L35 o u.2 a1 u.1) bigN ((0 : Int32), e8)).bind fun e18 =>
  some e18
set_option maxHeartbeats 4000000 in
set_option maxRecDepth 100000 in
theorem tX6_loadSigns_L2 {κ : KK} {p : Program} {l : Launch} {e : Env} {s : State} {m : MethodId} {args : Array Value} {below : List Frame} {meth : Method} {c : Code} (C : Cx κ p s m args meth c cX6_loadSigns 6 RX6 none) {o : Nat} {v : Option Value} {B' : Heap → Prop} {z : CS} {l1 : Nat} {l2 : Int32} {y : (Int32 × CS) ⊕ CS} (h : fX6_loadSigns_L2 o z l1 l2 = some y) (kc : ∀ u, y = .inl u → GC κ p l e s m args below meth c rmX6_loadSigns 6 o v B' 0 0 u.2 2 [(0, .ref (o + 20)), (1, .ref l1), (2, .int u.1)] []) (kx : ∀ w, y = .inr w → GC κ p l e s m args below meth c rmX6_loadSigns 6 o v B' 0 0 w 33 [(0, .ref (o + 20)), (1, .ref l1)] []) : GC κ p l e s m args below meth c rmX6_loadSigns 6 o v B' 0 0 z 2 [(0, .ref (o + 20)), (1, .ref l1), (2, .int l2)] [] := by
  unfold fX6_loadSigns_L2 at h
  refine G_iload_n (pc' := 3) C dX6_loadSigns_2 2 rfl rfl ?_
  refine G_aload_n (pc' := 4) C dX6_loadSigns_3 1 rfl rfl ?_
  replace h := ob h
  obtain ⟨t1, ht1, h⟩ := h
  refine G_get (pc' := 7) (k := 3) C fi_X8 dX6_loadSigns_4 tw_fl_X6_15 rfl (by decide) (CB_T ht1) rfl rfl ?_
  replace h := ob h
  obtain ⟨ad2, had2, h⟩ := h
  rw [had2]
  replace h := ob h
  obtain ⟨v3, hv3, h⟩ := h
  refine P_lenB (pc' := 8) C dX6_loadSigns_7 hv3 rfl ?_
  refine G_icmp_ge (tgt := 33) (pc' := 11) C dX6_loadSigns_8 (by decide) rfl (fun hc => ?_) (fun hc => ?_)
  · replace h := z_ip hc h
    exact G_sub (lv' := [(0, .ref (o + 20)), (1, .ref l1)]) [0, 1] rfl (kx _ (Option.some.inj h).symm)
  · replace h := z_in hc h
    refine G_aload_n (pc' := 12) C dX6_loadSigns_11 0 rfl rfl ?_
    refine G_get (pc' := 15) (k := 0) C fi_X6 dX6_loadSigns_12 tw_fl_X6_9 rfl (by decide) (CB_rd 20 rfl) rfl rfl ?_
    refine G_iload_n (pc' := 16) C dX6_loadSigns_15 2 rfl rfl ?_
    refine G_iconst (pc' := 17) (v := (1 : Int32)) C dX6_loadSigns_16 (by decide) rfl ?_
    refine G_iconst (pc' := 18) (v := (2 : Int32)) C dX6_loadSigns_17 (by decide) rfl ?_
    refine G_aload_n (pc' := 19) C dX6_loadSigns_18 1 rfl rfl ?_
    replace h := ob h
    obtain ⟨t4, ht4, h⟩ := h
    refine G_get (pc' := 22) (k := 3) C fi_X8 dX6_loadSigns_19 tw_fl_X6_15 rfl (by decide) (CB_T ht4) rfl rfl ?_
    refine G_iload_n (pc' := 23) C dX6_loadSigns_22 2 rfl rfl ?_
    replace h := ob h
    obtain ⟨ad5, had5, h⟩ := h
    rw [had5]
    replace h := ob h
    obtain ⟨v6, hv6, h⟩ := h
    refine P_bald (pc' := 24) C dX6_loadSigns_23 hv6 rfl ?_
    refine G_imul (pc' := 25) C dX6_loadSigns_24 rfl ?_
    refine G_isub (pc' := 26) C dX6_loadSigns_25 rfl ?_
    replace h := ob h
    obtain ⟨z7, hz7, h⟩ := h
    refine C_s_21 (pc' := 27) C dX6_loadSigns_26 hz7 rfl ?_
    refine G_iinc (pc' := 30) C dX6_loadSigns_27 2 rfl rfl [(2, .int (l2 + (1 : Int32))), (0, .ref (o + 20)), (1, .ref l1)] (by decide) rfl rfl ?_
    refine G_goto (tgt := 2) C dX6_loadSigns_30 (by decide) ?_
    exact G_sub (lv' := [(0, .ref (o + 20)), (1, .ref l1), (2, .int (l2 + (1 : Int32)))]) [1, 2, 0] rfl (kc ((l2 + (1 : Int32)), z7) (Option.some.inj h).symm)
set_option maxHeartbeats 4000000 in
set_option maxRecDepth 100000 in
theorem tX6_loadSigns_L45 {κ : KK} {p : Program} {l : Launch} {e : Env} {s : State} {m : MethodId} {args : Array Value} {below : List Frame} {meth : Method} {c : Code} (C : Cx κ p s m args meth c cX6_loadSigns 6 RX6 none) {o : Nat} {v : Option Value} {B' : Heap → Prop} {z : CS} {l1 : Nat} {l2 : Int32} {l3 : Int32} {y : (Int32 × CS) ⊕ CS} (h : fX6_loadSigns_L45 o z l1 l2 l3 = some y) (kc : ∀ u, y = .inl u → GC κ p l e s m args below meth c rmX6_loadSigns 6 o v B' 0 0 u.2 45 [(0, .ref (o + 20)), (1, .ref l1), (2, .int l2), (3, .int u.1)] []) (kx : ∀ w, y = .inr w → GC κ p l e s m args below meth c rmX6_loadSigns 6 o v B' 0 0 w 115 [(0, .ref (o + 20)), (1, .ref l1), (2, .int l2)] []) : GC κ p l e s m args below meth c rmX6_loadSigns 6 o v B' 0 0 z 45 [(0, .ref (o + 20)), (1, .ref l1), (2, .int l2), (3, .int l3)] [] := by
  have J109 : ∀ (z : CS) (l3 : Int32), fX6_loadSigns_L45_J109 o z l1 l2 l3 = some y → GC κ p l e s m args below meth c rmX6_loadSigns 6 o v B' 0 0 z 109 [(0, .ref (o + 20)), (1, .ref l1), (2, .int l2), (3, .int l3)] [] := by
    intro z l3 h
    unfold fX6_loadSigns_L45_J109 at h
    refine G_iinc (pc' := 112) C dX6_loadSigns_109 3 rfl rfl [(3, .int (l3 + (1 : Int32))), (0, .ref (o + 20)), (1, .ref l1), (2, .int l2)] (by decide) rfl rfl ?_
    refine G_goto (tgt := 45) C dX6_loadSigns_112 (by decide) ?_
    exact G_sub (lv' := [(0, .ref (o + 20)), (1, .ref l1), (2, .int l2), (3, .int (l3 + (1 : Int32)))]) [1, 2, 3, 0] rfl (kc ((l3 + (1 : Int32)), z) (Option.some.inj h).symm)
  unfold fX6_loadSigns_L45 at h
  refine G_iload_n (pc' := 46) C dX6_loadSigns_45 3 rfl rfl ?_
  refine G_aload_n (pc' := 47) C dX6_loadSigns_46 1 rfl rfl ?_
  replace h := ob h
  obtain ⟨t10, ht10, h⟩ := h
  refine G_get (pc' := 50) (k := 3) C fi_X8 dX6_loadSigns_47 tw_fl_X6_15 rfl (by decide) (CB_T ht10) rfl rfl ?_
  replace h := ob h
  obtain ⟨ad11, had11, h⟩ := h
  rw [had11]
  replace h := ob h
  obtain ⟨v12, hv12, h⟩ := h
  refine P_lenB (pc' := 51) C dX6_loadSigns_50 hv12 rfl ?_
  refine G_icmp_ge (tgt := 115) (pc' := 54) C dX6_loadSigns_51 (by decide) rfl (fun hc => ?_) (fun hc => ?_)
  · replace h := z_ip hc h
    exact G_sub (lv' := [(0, .ref (o + 20)), (1, .ref l1), (2, .int l2)]) [0, 1, 2] rfl (kx _ (Option.some.inj h).symm)
  · replace h := z_in hc h
    refine G_iload_n (pc' := 55) C dX6_loadSigns_54 3 rfl rfl ?_
    refine G_iload_n (pc' := 56) C dX6_loadSigns_55 2 rfl rfl ?_
    refine G_ishr (pc' := 57) C dX6_loadSigns_56 rfl ?_
    refine G_iconst (pc' := 58) (v := (1 : Int32)) C dX6_loadSigns_57 (by decide) rfl ?_
    refine G_iand (pc' := 59) C dX6_loadSigns_58 rfl ?_
    refine G_iconst (pc' := 60) (v := (1 : Int32)) C dX6_loadSigns_59 (by decide) rfl ?_
    refine G_icmp_ne (tgt := 109) (pc' := 63) C dX6_loadSigns_60 (by decide) rfl (fun hc => ?_) (fun hc => ?_)
    · replace h := z_in hc h
      exact G_sub (lv' := [(0, .ref (o + 20)), (1, .ref l1), (2, .int l2), (3, .int l3)]) [0, 1, 2, 3] rfl (J109 z l3 h)
    · replace h := z_ip hc h
      refine G_aload_n (pc' := 64) C dX6_loadSigns_63 0 rfl rfl ?_
      refine G_get (pc' := 67) (k := 0) C fi_X6 dX6_loadSigns_64 tw_fl_X6_9 rfl (by decide) (CB_rd 20 rfl) rfl rfl ?_
      refine G_iload_n (pc' := 68) C dX6_loadSigns_67 3 rfl rfl ?_
      refine G_iconst (pc' := 69) (v := (1 : Int32)) C dX6_loadSigns_68 (by decide) rfl ?_
      refine G_iload_n (pc' := 70) C dX6_loadSigns_69 2 rfl rfl ?_
      refine G_ishl (pc' := 71) C dX6_loadSigns_70 rfl ?_
      refine G_ixor (pc' := 72) C dX6_loadSigns_71 rfl ?_
      replace h := ob h
      obtain ⟨v13, hv13, h⟩ := h
      refine G_ialdV (pc' := 73) C dX6_loadSigns_72 (CB_rd 21 rfl) hv13 rfl ?_
      refine G_istore (pc' := 75) C dX6_loadSigns_73 [(4, .int v13), (0, .ref (o + 20)), (1, .ref l1), (2, .int l2), (3, .int l3)] (by decide) rfl rfl ?_
      refine G_aload_n (pc' := 76) C dX6_loadSigns_75 1 rfl rfl ?_
      refine G_get (pc' := 79) (k := 0) C fi_X6 dX6_loadSigns_76 tw_fl_X6_9 rfl (by decide) (CB_rd 20 rfl) rfl rfl ?_
      refine G_iload_n (pc' := 80) C dX6_loadSigns_79 4 rfl rfl ?_
      replace h := ob h
      obtain ⟨v14, hv14, h⟩ := h
      refine G_ialdV (pc' := 81) C dX6_loadSigns_80 (CB_rd 21 rfl) hv14 rfl ?_
      refine G_istore (pc' := 83) C dX6_loadSigns_81 [(5, .int v14), (4, .int v13), (0, .ref (o + 20)), (1, .ref l1), (2, .int l2), (3, .int l3)] (by decide) rfl rfl ?_
      refine G_aload_n (pc' := 84) C dX6_loadSigns_83 2 rfl rfl ?_
      refine G_get (pc' := 87) (k := 0) C fi_X6 dX6_loadSigns_84 tw_fl_X6_9 rfl (by decide) (CB_rd 20 rfl) rfl rfl ?_
      refine G_iload_n (pc' := 88) C dX6_loadSigns_87 5 rfl rfl ?_
      refine G_iconst (pc' := 89) (v := (1 : Int32)) C dX6_loadSigns_88 (by decide) rfl ?_
      refine G_iload_n (pc' := 90) C dX6_loadSigns_89 4 rfl rfl ?_
      refine G_ishl (pc' := 91) C dX6_loadSigns_90 rfl ?_
      refine G_ixor (pc' := 92) C dX6_loadSigns_91 rfl ?_
      refine G_iload (pc' := 94) C dX6_loadSigns_92 1 rfl rfl ?_
      refine G_iload (pc' := 96) C dX6_loadSigns_94 0 rfl rfl ?_
      refine G_iadd (pc' := 97) C dX6_loadSigns_96 rfl ?_
      replace h := ob h
      obtain ⟨z15, hz15, h⟩ := h
      refine C_s_21 (pc' := 98) C dX6_loadSigns_97 hz15 rfl ?_
      refine G_aload_n (pc' := 99) C dX6_loadSigns_98 2 rfl rfl ?_
      refine G_get (pc' := 102) (k := 0) C fi_X6 dX6_loadSigns_99 tw_fl_X6_9 rfl (by decide) (CB_rd 20 rfl) rfl rfl ?_
      refine G_iload_n (pc' := 103) C dX6_loadSigns_102 5 rfl rfl ?_
      refine G_iload (pc' := 105) C dX6_loadSigns_103 1 rfl rfl ?_
      refine G_iload (pc' := 107) C dX6_loadSigns_105 0 rfl rfl ?_
      refine G_isub (pc' := 108) C dX6_loadSigns_107 rfl ?_
      replace h := ob h
      obtain ⟨z16, hz16, h⟩ := h
      refine C_s_21 (pc' := 109) C dX6_loadSigns_108 hz16 rfl ?_
      exact G_sub (lv' := [(0, .ref (o + 20)), (1, .ref l1), (2, .int l2), (3, .int l3)]) [2, 3, 4, 5] rfl (J109 z16 l3 h)
set_option maxHeartbeats 4000000 in
set_option maxRecDepth 100000 in
theorem tX6_loadSigns_L35 {κ : KK} {p : Program} {l : Launch} {e : Env} {s : State} {m : MethodId} {args : Array Value} {below : List Frame} {meth : Method} {c : Code} (C : Cx κ p s m args meth c cX6_loadSigns 6 RX6 none) {o : Nat} {v : Option Value} {B' : Heap → Prop} {z : CS} {l1 : Nat} {l2 : Int32} {y : (Int32 × CS) ⊕ CS} (h : fX6_loadSigns_L35 o z l1 l2 = some y) (kc : ∀ u, y = .inl u → GC κ p l e s m args below meth c rmX6_loadSigns 6 o v B' 0 0 u.2 35 [(0, .ref (o + 20)), (1, .ref l1), (2, .int u.1)] []) (kx : ∀ w, y = .inr w → GC κ p l e s m args below meth c rmX6_loadSigns 6 o v B' 0 0 w 121 [] []) : GC κ p l e s m args below meth c rmX6_loadSigns 6 o v B' 0 0 z 35 [(0, .ref (o + 20)), (1, .ref l1), (2, .int l2)] [] := by
  unfold fX6_loadSigns_L35 at h
  refine G_iload_n (pc' := 36) C dX6_loadSigns_35 2 rfl rfl ?_
  refine G_aload_n (pc' := 37) C dX6_loadSigns_36 1 rfl rfl ?_
  replace h := ob h
  obtain ⟨t9, ht9, h⟩ := h
  refine G_get (pc' := 40) (k := 1) C fi_X8 dX6_loadSigns_37 tw_fl_X6_21 rfl (by decide) (CB_T ht9) rfl rfl ?_
  refine G_icmp_ge (tgt := 121) (pc' := 43) C dX6_loadSigns_40 (by decide) rfl (fun hc => ?_) (fun hc => ?_)
  · replace h := z_ip hc h
    exact G_sub (lv' := []) [] rfl (kx _ (Option.some.inj h).symm)
  · replace h := z_in hc h
    refine G_iconst (pc' := 44) (v := (0 : Int32)) C dX6_loadSigns_43 (by decide) rfl ?_
    refine G_istore_n (pc' := 45) C dX6_loadSigns_44 [(3, .int (0 : Int32)), (0, .ref (o + 20)), (1, .ref l1), (2, .int l2)] (by decide) rfl rfl ?_
    replace h := ob h
    obtain ⟨e17, hle17, h⟩ := h
    refine G_sub (lv' := [(0, .ref (o + 20)), (1, .ref l1), (2, .int l2), (3, .int (0 : Int32))]) [1, 2, 3, 0] rfl ?_
    refine lpN_ind (body := fun u => fX6_loadSigns_L45 o u.2 l1 l2 u.1) (P := fun u => GC κ p l e s m args below meth c rmX6_loadSigns 6 o v B' 0 0 u.2 45 [(0, .ref (o + 20)), (1, .ref l1), (2, .int l2), (3, .int u.1)] []) (X := fun w => GC κ p l e s m args below meth c rmX6_loadSigns 6 o v B' 0 0 w 115 [(0, .ref (o + 20)), (1, .ref l1), (2, .int l2)] []) (fun u y hb kc kx => tX6_loadSigns_L45 C hb kc kx) _ _ _ hle17 ?_
    refine G_iinc (pc' := 118) C dX6_loadSigns_115 2 rfl rfl [(2, .int (l2 + (1 : Int32))), (0, .ref (o + 20)), (1, .ref l1)] (by decide) rfl rfl ?_
    refine G_goto (tgt := 35) C dX6_loadSigns_118 (by decide) ?_
    exact G_sub (lv' := [(0, .ref (o + 20)), (1, .ref l1), (2, .int (l2 + (1 : Int32)))]) [1, 2, 0] rfl (kc ((l2 + (1 : Int32)), e17) (Option.some.inj h).symm)
set_option maxHeartbeats 4000000 in
set_option maxRecDepth 100000 in
theorem tX6_loadSigns (κ : KK) (l : Launch) (o : Nat) (z : CS) (a1 : Nat) (q : CS) (h : fX6_loadSigns o z a1 = some q) : MM κ l yX6_loadSigns cX6_loadSigns 6 none rmX6_loadSigns (CA o) [.ref (o + 20), .ref a1] (CB κ o z) none (CB κ o q) := by
  refine MM.of (by decide +kernel) (Nat.le_of_ble_eq_true rfl) ?_
  intro p e s m below meth c C hnm
  unfold fX6_loadSigns at h
  refine G_sub (lv' := [(0, .ref (o + 20)), (1, .ref a1)]) [0, 1] rfl ?_
  refine G_iconst (pc' := 1) (v := (0 : Int32)) C dX6_loadSigns_0 (by decide) rfl ?_
  refine G_istore_n (pc' := 2) C dX6_loadSigns_1 [(2, .int (0 : Int32)), (0, .ref (o + 20)), (1, .ref a1)] (by decide) rfl rfl ?_
  replace h := ob h
  obtain ⟨e8, hle8, h⟩ := h
  refine G_sub (lv' := [(0, .ref (o + 20)), (1, .ref a1), (2, .int (0 : Int32))]) [1, 2, 0] rfl ?_
  refine lpN_ind (body := fun u => fX6_loadSigns_L2 o u.2 a1 u.1) (P := fun u => GC κ p l e s m ([.ref (o + 20), .ref a1] : List Value).toArray below meth c rmX6_loadSigns 6 o none (CB κ o q) 0 0 u.2 2 [(0, .ref (o + 20)), (1, .ref a1), (2, .int u.1)] []) (X := fun w => GC κ p l e s m ([.ref (o + 20), .ref a1] : List Value).toArray below meth c rmX6_loadSigns 6 o none (CB κ o q) 0 0 w 33 [(0, .ref (o + 20)), (1, .ref a1)] []) (fun u y hb kc kx => tX6_loadSigns_L2 C hb kc kx) _ _ _ hle8 ?_
  refine G_iconst (pc' := 34) (v := (0 : Int32)) C dX6_loadSigns_33 (by decide) rfl ?_
  refine G_istore_n (pc' := 35) C dX6_loadSigns_34 [(2, .int (0 : Int32)), (0, .ref (o + 20)), (1, .ref a1)] (by decide) rfl rfl ?_
  replace h := ob h
  obtain ⟨e18, hle18, h⟩ := h
  refine G_sub (lv' := [(0, .ref (o + 20)), (1, .ref a1), (2, .int (0 : Int32))]) [1, 2, 0] rfl ?_
  refine lpN_ind (body := fun u => fX6_loadSigns_L35 o u.2 a1 u.1) (P := fun u => GC κ p l e s m ([.ref (o + 20), .ref a1] : List Value).toArray below meth c rmX6_loadSigns 6 o none (CB κ o q) 0 0 u.2 35 [(0, .ref (o + 20)), (1, .ref a1), (2, .int u.1)] []) (X := fun w => GC κ p l e s m ([.ref (o + 20), .ref a1] : List Value).toArray below meth c rmX6_loadSigns 6 o none (CB κ o q) 0 0 w 121 [] []) (fun u y hb kc kx => tX6_loadSigns_L35 C hb kc kx) _ _ _ hle18 ?_
  refine G_widen (k := rmX6_loadSigns.cells) (n := rmX6_loadSigns.slots) (by decide) (by decide) ?_
  obtain rfl := Option.some.inj h
  exact G_vret C dX6_loadSigns_121 (fun _ h => h)
theorem dX9_sign_0 : decode cX9_sign 0 = .ok (.aload_n 0, 1) := by decide +kernel
theorem dX9_sign_1 : decode cX9_sign 1 = .ok (.iload_n 1, 1) := by decide +kernel
theorem dX9_sign_2 : decode cX9_sign 2 = .ok (.invokevirtual 261, 3) := by decide +kernel
theorem dX9_sign_5 : decode cX9_sign 5 = .ok (.ifCond .ne 16, 3) := by decide +kernel
theorem dX9_sign_8 : decode cX9_sign 8 = .ok (.aload_n 0, 1) := by decide +kernel
theorem dX9_sign_9 : decode cX9_sign 9 = .ok (.getfield 17, 3) := by decide +kernel
theorem dX9_sign_12 : decode cX9_sign 12 = .ok (.iload_n 1, 1) := by decide +kernel
theorem dX9_sign_13 : decode cX9_sign 13 = .ok (.aaload, 1) := by decide +kernel
theorem dX9_sign_14 : decode cX9_sign 14 = .ok (.iload_n 2, 1) := by decide +kernel
theorem dX9_sign_15 : decode cX9_sign 15 = .ok (.invokevirtual 176, 3) := by decide +kernel
theorem dX9_sign_18 : decode cX9_sign 18 = .ok (.ifCond .ne 5, 3) := by decide +kernel
theorem dX9_sign_21 : decode cX9_sign 21 = .ok (.iconst 0, 1) := by decide +kernel
theorem dX9_sign_22 : decode cX9_sign 22 = .ok (.ireturn, 1) := by decide +kernel
theorem dX9_sign_23 : decode cX9_sign 23 = .ok (.aload_n 0, 1) := by decide +kernel
theorem dX9_sign_24 : decode cX9_sign 24 = .ok (.getfield 57, 3) := by decide +kernel
theorem dX9_sign_27 : decode cX9_sign 27 = .ok (.aload_n 0, 1) := by decide +kernel
theorem dX9_sign_28 : decode cX9_sign 28 = .ok (.getfield 17, 3) := by decide +kernel
theorem dX9_sign_31 : decode cX9_sign 31 = .ok (.iload_n 1, 1) := by decide +kernel
theorem dX9_sign_32 : decode cX9_sign 32 = .ok (.aaload, 1) := by decide +kernel
theorem dX9_sign_33 : decode cX9_sign 33 = .ok (.invokevirtual 285, 3) := by decide +kernel
theorem dX9_sign_36 : decode cX9_sign 36 = .ok (.aload_n 0, 1) := by decide +kernel
theorem dX9_sign_37 : decode cX9_sign 37 = .ok (.getfield 57, 3) := by decide +kernel
theorem dX9_sign_40 : decode cX9_sign 40 = .ok (.getfield 278, 3) := by decide +kernel
theorem dX9_sign_43 : decode cX9_sign 43 = .ok (.iload_n 2, 1) := by decide +kernel
theorem dX9_sign_44 : decode cX9_sign 44 = .ok (.iaload, 1) := by decide +kernel
theorem dX9_sign_45 : decode cX9_sign 45 = .ok (.ireturn, 1) := by decide +kernel
theorem yd_X9_sign : yX9_sign.cls = RX9 ∧ yX9_sign.cls ≠ "java/lang/invoke/MethodHandle" ∧ yX9_sign.cls ≠ "java/lang/invoke/VarHandle" ∧ (parseMethodDescriptor yX9_sign.desc).map (fun d => d.parameters.length) = some 2 := by decide +kernel
abbrev rmX9_sign : Room := { frames := 3, cells := 0, slots := 0, locals := 64 }
def fX9_sign_J21 (o : Nat) (z : CS) : Option (Int32 × CS) :=
  some ((0 : Int32), z)
def fX9_sign (o : Nat) (z : CS) (a1 : Int32) (a2 : Int32) : Option (Int32 × CS) :=
  (fX9_findingOfTold o z a1).bind fun q1 =>
  if q1.1 = 0 then
    (aQ 8 (q1.2.2.2.1 1) a1).bind fun v2 =>
    (v2).bind fun ad3 =>
    (dT q1.2 ad3).bind fun t5 =>
    (fX8_hasInput o q1.2 ad3 a2).bind fun q4 =>
    if q4 = 0 then
      fX9_sign_J21 o q1.2
    else
      (aQ 8 (q1.2.2.2.1 1) a1).bind fun v6 =>
      (v6).bind fun ad7 =>
      (fX6_loadSigns o q1.2 ad7).bind fun q8 =>
      (aI 256 (q8.2.1 12) a2).bind fun v9 =>
      some (v9, q8)
  else
    fX9_sign_J21 o q1.2
set_option maxHeartbeats 4000000 in
set_option maxRecDepth 100000 in
theorem tX9_sign (κ : KK) (l : Launch) (o : Nat) (z : CS) (a1 : Int32) (a2 : Int32) (q : Int32 × CS) (h : fX9_sign o z a1 a2 = some q) : MM κ l yX9_sign cX9_sign 3 (some .int) rmX9_sign (CA o) [.ref o, .int a1, .int a2] (CB κ o z) (some (Value.int q.1)) (CB κ o q.2) := by
  refine MM.of (by decide +kernel) (Nat.le_of_ble_eq_true rfl) ?_
  intro p e s m below meth c C hnm
  have J21 : ∀ (z : CS), fX9_sign_J21 o z = some q → GC κ p l e s m ([.ref o, .int a1, .int a2] : List Value).toArray below meth c rmX9_sign 3 o (some (Value.int q.1)) (CB κ o q.2) 0 0 z 21 [] [] := by
    intro z h
    unfold fX9_sign_J21 at h
    refine G_iconst (pc' := 22) (v := (0 : Int32)) C dX9_sign_21 (by decide) rfl ?_
    refine G_widen (k := rmX9_sign.cells) (n := rmX9_sign.slots) (by decide) (by decide) ?_
    obtain rfl := Option.some.inj h
    exact G_iret C dX9_sign_22 (fun _ h => h)
  unfold fX9_sign at h
  refine G_sub (lv' := [(0, .ref o), (1, .int a1), (2, .int a2)]) [0, 1, 2] rfl ?_
  refine G_aload_n (pc' := 1) C dX9_sign_0 0 rfl rfl ?_
  refine G_iload_n (pc' := 2) C dX9_sign_1 1 rfl rfl ?_
  replace h := ob h
  obtain ⟨q1, hq1, h⟩ := h
  refine G_cV0 (pc' := 5) C dX9_sign_2 (tX9_findingOfTold κ l o z a1 q1 hq1) (wV tw_ml_X9_261 tw_im_X9_findingOfTold tw_se_X9_X9_findingOfTold tw_in_X9 tw_co_X9_findingOfTold) yd_X9_findingOfTold rfl fi_X9 (CB_rd 0 rfl) rfl rfl (by decide) rfl (Nat.le_of_ble_eq_true rfl) rfl rfl ?_
  refine G_if_ne (tgt := 21) (pc' := 8) C dX9_sign_5 (by decide) rfl (fun hc => ?_) (fun hc => ?_)
  · replace h := z_in hc h
    exact G_sub (lv' := []) [] rfl (J21 q1.2 h)
  · replace h := z_ip hc h
    refine G_aload_n (pc' := 9) C dX9_sign_8 0 rfl rfl ?_
    refine G_get (pc' := 12) (k := 1) C fi_X9 dX9_sign_9 tw_fl_X9_17 rfl (by decide) (CB_rd 0 rfl) rfl rfl ?_
    refine G_iload_n (pc' := 13) C dX9_sign_12 1 rfl rfl ?_
    replace h := ob h
    obtain ⟨v2, hv2, h⟩ := h
    refine G_aald5V (pc' := 14) C dX9_sign_13 (CB_rd 2 rfl) hv2 rfl ?_
    refine G_iload_n (pc' := 15) C dX9_sign_14 2 rfl rfl ?_
    replace h := ob h
    obtain ⟨ad3, had3, h⟩ := h
    subst had3
    replace h := ob h
    obtain ⟨t5, ht5, h⟩ := h
    replace h := ob h
    obtain ⟨q4, hq4, h⟩ := h
    refine G_cV0 (pc' := 18) C dX9_sign_15 (tX8_hasInput κ l o q1.2 ad3 a2 q4 hq4) (wV tw_ml_X9_176 tw_im_X8_hasInput tw_se_X8_X8_hasInput tw_in_X8 tw_co_X8_hasInput) yd_X8_hasInput rfl fi_X8 (CB_T ht5) rfl rfl (by decide) rfl (Nat.le_of_ble_eq_true rfl) rfl rfl ?_
    refine G_if_ne (tgt := 23) (pc' := 21) C dX9_sign_18 (by decide) rfl (fun hc => ?_) (fun hc => ?_)
    · replace h := z_in hc h
      refine G_aload_n (pc' := 24) C dX9_sign_23 0 rfl rfl ?_
      refine G_get (pc' := 27) (k := 8) C fi_X9 dX9_sign_24 tw_fl_X9_57 rfl (by decide) (CB_rd 0 rfl) rfl rfl ?_
      refine G_aload_n (pc' := 28) C dX9_sign_27 0 rfl rfl ?_
      refine G_get (pc' := 31) (k := 1) C fi_X9 dX9_sign_28 tw_fl_X9_17 rfl (by decide) (CB_rd 0 rfl) rfl rfl ?_
      refine G_iload_n (pc' := 32) C dX9_sign_31 1 rfl rfl ?_
      replace h := ob h
      obtain ⟨v6, hv6, h⟩ := h
      refine G_aald5V (pc' := 33) C dX9_sign_32 (CB_rd 2 rfl) hv6 rfl ?_
      replace h := ob h
      obtain ⟨ad7, had7, h⟩ := h
      subst had7
      replace h := ob h
      obtain ⟨q8, hq8, h⟩ := h
      refine G_cV0 (pc' := 36) C dX9_sign_33 (tX6_loadSigns κ l o q1.2 ad7 q8 hq8) (wV tw_ml_X9_285 tw_im_X6_loadSigns tw_se_X6_X6_loadSigns tw_in_X6 tw_co_X6_loadSigns) yd_X6_loadSigns rfl fi_X6 (CB_rd 20 rfl) rfl rfl (by decide) rfl (Nat.le_of_ble_eq_true rfl) rfl rfl ?_
      refine G_aload_n (pc' := 37) C dX9_sign_36 0 rfl rfl ?_
      refine G_get (pc' := 40) (k := 8) C fi_X9 dX9_sign_37 tw_fl_X9_57 rfl (by decide) (CB_rd 0 rfl) rfl rfl ?_
      refine G_get (pc' := 43) (k := 0) C fi_X6 dX9_sign_40 tw_fl_X9_278 rfl (by decide) (CB_rd 20 rfl) rfl rfl ?_
      refine G_iload_n (pc' := 44) C dX9_sign_43 2 rfl rfl ?_
      replace h := ob h
      obtain ⟨v9, hv9, h⟩ := h
      refine G_ialdV (pc' := 45) C dX9_sign_44 (CB_rd 21 rfl) hv9 rfl ?_
      refine G_widen (k := rmX9_sign.cells) (n := rmX9_sign.slots) (by decide) (by decide) ?_
      obtain rfl := Option.some.inj h
      exact G_iret C dX9_sign_45 (fun _ h => h)
    · replace h := z_ip hc h
      exact G_sub (lv' := []) [] rfl (J21 q1.2 h)
theorem dX9_energy_0 : decode cX9_energy 0 = .ok (.aload_n 0, 1) := by decide +kernel
theorem dX9_energy_1 : decode cX9_energy 1 = .ok (.iload_n 1, 1) := by decide +kernel
theorem dX9_energy_2 : decode cX9_energy 2 = .ok (.invokevirtual 261, 3) := by decide +kernel
theorem dX9_energy_5 : decode cX9_energy 5 = .ok (.istore_n 3, 1) := by decide +kernel
theorem dX9_energy_6 : decode cX9_energy 6 = .ok (.iload_n 3, 1) := by decide +kernel
theorem dX9_energy_7 : decode cX9_energy 7 = .ok (.ifCond .eq 5, 3) := by decide +kernel
theorem dX9_energy_10 : decode cX9_energy 10 = .ok (.iload_n 3, 1) := by decide +kernel
theorem dX9_energy_11 : decode cX9_energy 11 = .ok (.ireturn, 1) := by decide +kernel
theorem dX9_energy_12 : decode cX9_energy 12 = .ok (.iload_n 2, 1) := by decide +kernel
theorem dX9_energy_13 : decode cX9_energy 13 = .ok (.ifCond .lt 9, 3) := by decide +kernel
theorem dX9_energy_16 : decode cX9_energy 16 = .ok (.iload_n 2, 1) := by decide +kernel
theorem dX9_energy_17 : decode cX9_energy 17 = .ok (.bipush 8, 2) := by decide +kernel
theorem dX9_energy_19 : decode cX9_energy 19 = .ok (.if_icmp .le 6, 3) := by decide +kernel
theorem dX9_energy_22 : decode cX9_energy 22 = .ok (.bipush (-2), 2) := by decide +kernel
theorem dX9_energy_24 : decode cX9_energy 24 = .ok (.ireturn, 1) := by decide +kernel
theorem dX9_energy_25 : decode cX9_energy 25 = .ok (.aload_n 0, 1) := by decide +kernel
theorem dX9_energy_26 : decode cX9_energy 26 = .ok (.getfield 17, 3) := by decide +kernel
theorem dX9_energy_29 : decode cX9_energy 29 = .ok (.iload_n 1, 1) := by decide +kernel
theorem dX9_energy_30 : decode cX9_energy 30 = .ok (.aaload, 1) := by decide +kernel
theorem dX9_energy_31 : decode cX9_energy 31 = .ok (.astore 4, 2) := by decide +kernel
theorem dX9_energy_33 : decode cX9_energy 33 = .ok (.aload_n 0, 1) := by decide +kernel
theorem dX9_energy_34 : decode cX9_energy 34 = .ok (.getfield 57, 3) := by decide +kernel
theorem dX9_energy_37 : decode cX9_energy 37 = .ok (.aload 4, 2) := by decide +kernel
theorem dX9_energy_39 : decode cX9_energy 39 = .ok (.invokevirtual 285, 3) := by decide +kernel
theorem dX9_energy_42 : decode cX9_energy 42 = .ok (.iconst 0, 1) := by decide +kernel
theorem dX9_energy_43 : decode cX9_energy 43 = .ok (.istore 5, 2) := by decide +kernel
theorem dX9_energy_45 : decode cX9_energy 45 = .ok (.iconst 0, 1) := by decide +kernel
theorem dX9_energy_46 : decode cX9_energy 46 = .ok (.istore 6, 2) := by decide +kernel
theorem dX9_energy_48 : decode cX9_energy 48 = .ok (.iload 6, 2) := by decide +kernel
theorem dX9_energy_50 : decode cX9_energy 50 = .ok (.aload 4, 2) := by decide +kernel
theorem dX9_energy_52 : decode cX9_energy 52 = .ok (.getfield 155, 3) := by decide +kernel
theorem dX9_energy_55 : decode cX9_energy 55 = .ok (.arraylength, 1) := by decide +kernel
theorem dX9_energy_56 : decode cX9_energy 56 = .ok (.if_icmp .ge 44, 3) := by decide +kernel
theorem dX9_energy_59 : decode cX9_energy 59 = .ok (.iload 6, 2) := by decide +kernel
theorem dX9_energy_61 : decode cX9_energy 61 = .ok (.invokestatic 171, 3) := by decide +kernel
theorem dX9_energy_64 : decode cX9_energy 64 = .ok (.iload_n 2, 1) := by decide +kernel
theorem dX9_energy_65 : decode cX9_energy 65 = .ok (.if_icmp .ne 29, 3) := by decide +kernel
theorem dX9_energy_68 : decode cX9_energy 68 = .ok (.iload 5, 2) := by decide +kernel
theorem dX9_energy_70 : decode cX9_energy 70 = .ok (.aload_n 0, 1) := by decide +kernel
theorem dX9_energy_71 : decode cX9_energy 71 = .ok (.getfield 57, 3) := by decide +kernel
theorem dX9_energy_74 : decode cX9_energy 74 = .ok (.getfield 278, 3) := by decide +kernel
theorem dX9_energy_77 : decode cX9_energy 77 = .ok (.iload 6, 2) := by decide +kernel
theorem dX9_energy_79 : decode cX9_energy 79 = .ok (.iaload, 1) := by decide +kernel
theorem dX9_energy_80 : decode cX9_energy 80 = .ok (.aload_n 0, 1) := by decide +kernel
theorem dX9_energy_81 : decode cX9_energy 81 = .ok (.getfield 57, 3) := by decide +kernel
theorem dX9_energy_84 : decode cX9_energy 84 = .ok (.getfield 278, 3) := by decide +kernel
theorem dX9_energy_87 : decode cX9_energy 87 = .ok (.iload 6, 2) := by decide +kernel
theorem dX9_energy_89 : decode cX9_energy 89 = .ok (.iaload, 1) := by decide +kernel
theorem dX9_energy_90 : decode cX9_energy 90 = .ok (.imul, 1) := by decide +kernel
theorem dX9_energy_91 : decode cX9_energy 91 = .ok (.iadd, 1) := by decide +kernel
theorem dX9_energy_92 : decode cX9_energy 92 = .ok (.istore 5, 2) := by decide +kernel
theorem dX9_energy_94 : decode cX9_energy 94 = .ok (.iinc 6 1, 3) := by decide +kernel
theorem dX9_energy_97 : decode cX9_energy 97 = .ok (.goto (-49), 3) := by decide +kernel
theorem dX9_energy_100 : decode cX9_energy 100 = .ok (.iload 5, 2) := by decide +kernel
theorem dX9_energy_102 : decode cX9_energy 102 = .ok (.ireturn, 1) := by decide +kernel
theorem yd_X9_energy : yX9_energy.cls = RX9 ∧ yX9_energy.cls ≠ "java/lang/invoke/MethodHandle" ∧ yX9_energy.cls ≠ "java/lang/invoke/VarHandle" ∧ (parseMethodDescriptor yX9_energy.desc).map (fun d => d.parameters.length) = some 2 := by decide +kernel
abbrev rmX9_energy : Room := { frames := 3, cells := 0, slots := 0, locals := 64 }
def fX9_energy_L48_J94 (o : Nat) (z : CS) (l2 : Int32) (l4 : Nat) (l5 : Int32) (l6 : Int32) : Option ((Int32 × Int32) ⊕ Int32) :=
  some (.inl (l5, (l6 + (1 : Int32))))
def fX9_energy_L48 (o : Nat) (z : CS) (l2 : Int32) (l4 : Nat) (l5 : Int32) (l6 : Int32) : Option ((Int32 × Int32) ⊕ Int32) :=
  (dT z l4).bind fun t5 =>
  (t5.2.2.2).bind fun ad6 =>
  (lnB z ad6).bind fun v7 =>
  if v7 ≤ l6 then
    some (.inr l5)
  else
    (fJ6_bitCount_0f7a4 l6).bind fun q8 =>
    if q8 = l2 then
      (aI 256 (z.2.1 12) l6).bind fun v9 =>
      (aI 256 (z.2.1 12) l6).bind fun v10 =>
      fX9_energy_L48_J94 o z l2 l4 (l5 + (v9 * v10)) l6
    else
      fX9_energy_L48_J94 o z l2 l4 l5 l6
def fX9_energy_J22 (o : Nat) (z : CS) : Option (Int32 × CS) :=
  some ((-2 : Int32), z)
def fX9_energy (o : Nat) (z : CS) (a1 : Int32) (a2 : Int32) : Option (Int32 × CS) :=
  (fX9_findingOfTold o z a1).bind fun q1 =>
  if q1.1 = 0 then
    if a2 < 0 then
      fX9_energy_J22 o q1.2
    else
      if a2 ≤ (8 : Int32) then
        (aQ 8 (q1.2.2.2.1 1) a1).bind fun v2 =>
        (v2).bind fun ad3 =>
        (fX6_loadSigns o q1.2 ad3).bind fun q4 =>
        (lpN (fun u => fX9_energy_L48 o q4 a2 ad3 u.1 u.2) bigN ((0 : Int32), (0 : Int32))).bind fun e11 =>
        some (e11, q4)
      else
        fX9_energy_J22 o q1.2
  else
    some (q1.1, q1.2)
set_option maxHeartbeats 4000000 in
set_option maxRecDepth 100000 in
theorem tX9_energy_L48 {κ : KK} {p : Program} {l : Launch} {e : Env} {s : State} {m : MethodId} {args : Array Value} {below : List Frame} {meth : Method} {c : Code} (C : Cx κ p s m args meth c cX9_energy 7 RX9 (some .int)) {o : Nat} {v : Option Value} {B' : Heap → Prop} {z : CS} {l2 : Int32} {l4 : Nat} {l5 : Int32} {l6 : Int32} {y : (Int32 × Int32) ⊕ Int32} (h : fX9_energy_L48 o z l2 l4 l5 l6 = some y) (kc : ∀ u, y = .inl u → GC κ p l e s m args below meth c rmX9_energy 7 o v B' 0 0 z 48 [(0, .ref o), (2, .int l2), (4, .ref l4), (5, .int u.1), (6, .int u.2)] []) (kx : ∀ w, y = .inr w → GC κ p l e s m args below meth c rmX9_energy 7 o v B' 0 0 z 100 [(5, .int w)] []) : GC κ p l e s m args below meth c rmX9_energy 7 o v B' 0 0 z 48 [(0, .ref o), (2, .int l2), (4, .ref l4), (5, .int l5), (6, .int l6)] [] := by
  have J94 : ∀ (l5 : Int32) (l6 : Int32), fX9_energy_L48_J94 o z l2 l4 l5 l6 = some y → GC κ p l e s m args below meth c rmX9_energy 7 o v B' 0 0 z 94 [(0, .ref o), (2, .int l2), (4, .ref l4), (5, .int l5), (6, .int l6)] [] := by
    intro l5 l6 h
    unfold fX9_energy_L48_J94 at h
    refine G_iinc (pc' := 97) C dX9_energy_94 4 rfl rfl [(6, .int (l6 + (1 : Int32))), (0, .ref o), (2, .int l2), (4, .ref l4), (5, .int l5)] (by decide) rfl rfl ?_
    refine G_goto (tgt := 48) C dX9_energy_97 (by decide) ?_
    exact G_sub (lv' := [(0, .ref o), (2, .int l2), (4, .ref l4), (5, .int l5), (6, .int (l6 + (1 : Int32)))]) [1, 2, 3, 4, 0] rfl (kc (l5, (l6 + (1 : Int32))) (Option.some.inj h).symm)
  unfold fX9_energy_L48 at h
  refine G_iload (pc' := 50) C dX9_energy_48 4 rfl rfl ?_
  refine G_aload (pc' := 52) C dX9_energy_50 2 rfl rfl ?_
  replace h := ob h
  obtain ⟨t5, ht5, h⟩ := h
  refine G_get (pc' := 55) (k := 3) C fi_X8 dX9_energy_52 tw_fl_X9_155 rfl (by decide) (CB_T ht5) rfl rfl ?_
  replace h := ob h
  obtain ⟨ad6, had6, h⟩ := h
  rw [had6]
  replace h := ob h
  obtain ⟨v7, hv7, h⟩ := h
  refine P_lenB (pc' := 56) C dX9_energy_55 hv7 rfl ?_
  refine G_icmp_ge (tgt := 100) (pc' := 59) C dX9_energy_56 (by decide) rfl (fun hc => ?_) (fun hc => ?_)
  · replace h := z_ip hc h
    exact G_sub (lv' := [(5, .int l5)]) [3] rfl (kx _ (Option.some.inj h).symm)
  · replace h := z_in hc h
    refine G_iload (pc' := 61) C dX9_energy_59 4 rfl rfl ?_
    replace h := ob h
    obtain ⟨q8, hq8, h⟩ := h
    refine G_cS0 (pc' := 64) C dX9_energy_61 (tJ6_bitCount_0f7a4 κ l (CA o) (CB κ o z) l6 q8 hq8) (wS tw_ml_X9_171 tw_st_J6_bitCount_0f7a4 tw_co_J6_bitCount_0f7a4 tw_in_J6) yd_J6_bitCount_0f7a4 rfl rfl rfl (by decide) rfl (Nat.le_of_ble_eq_true rfl) rfl rfl ?_
    refine G_iload_n (pc' := 65) C dX9_energy_64 1 rfl rfl ?_
    refine G_icmp_ne (tgt := 94) (pc' := 68) C dX9_energy_65 (by decide) rfl (fun hc => ?_) (fun hc => ?_)
    · replace h := z_in hc h
      exact G_sub (lv' := [(0, .ref o), (2, .int l2), (4, .ref l4), (5, .int l5), (6, .int l6)]) [0, 1, 2, 3, 4] rfl (J94 l5 l6 h)
    · replace h := z_ip hc h
      refine G_iload (pc' := 70) C dX9_energy_68 3 rfl rfl ?_
      refine G_aload_n (pc' := 71) C dX9_energy_70 0 rfl rfl ?_
      refine G_get (pc' := 74) (k := 8) C fi_X9 dX9_energy_71 tw_fl_X9_57 rfl (by decide) (CB_rd 0 rfl) rfl rfl ?_
      refine G_get (pc' := 77) (k := 0) C fi_X6 dX9_energy_74 tw_fl_X9_278 rfl (by decide) (CB_rd 20 rfl) rfl rfl ?_
      refine G_iload (pc' := 79) C dX9_energy_77 4 rfl rfl ?_
      replace h := ob h
      obtain ⟨v9, hv9, h⟩ := h
      refine G_ialdV (pc' := 80) C dX9_energy_79 (CB_rd 21 rfl) hv9 rfl ?_
      refine G_aload_n (pc' := 81) C dX9_energy_80 0 rfl rfl ?_
      refine G_get (pc' := 84) (k := 8) C fi_X9 dX9_energy_81 tw_fl_X9_57 rfl (by decide) (CB_rd 0 rfl) rfl rfl ?_
      refine G_get (pc' := 87) (k := 0) C fi_X6 dX9_energy_84 tw_fl_X9_278 rfl (by decide) (CB_rd 20 rfl) rfl rfl ?_
      refine G_iload (pc' := 89) C dX9_energy_87 4 rfl rfl ?_
      replace h := ob h
      obtain ⟨v10, hv10, h⟩ := h
      refine G_ialdV (pc' := 90) C dX9_energy_89 (CB_rd 21 rfl) hv10 rfl ?_
      refine G_imul (pc' := 91) C dX9_energy_90 rfl ?_
      refine G_iadd (pc' := 92) C dX9_energy_91 rfl ?_
      refine G_istore (pc' := 94) C dX9_energy_92 [(5, .int (l5 + (v9 * v10))), (0, .ref o), (2, .int l2), (4, .ref l4), (6, .int l6)] (by decide) rfl rfl ?_
      exact G_sub (lv' := [(0, .ref o), (2, .int l2), (4, .ref l4), (5, .int (l5 + (v9 * v10))), (6, .int l6)]) [1, 2, 3, 0, 4] rfl (J94 (l5 + (v9 * v10)) l6 h)
set_option maxHeartbeats 4000000 in
set_option maxRecDepth 100000 in
theorem tX9_energy (κ : KK) (l : Launch) (o : Nat) (z : CS) (a1 : Int32) (a2 : Int32) (q : Int32 × CS) (h : fX9_energy o z a1 a2 = some q) : MM κ l yX9_energy cX9_energy 7 (some .int) rmX9_energy (CA o) [.ref o, .int a1, .int a2] (CB κ o z) (some (Value.int q.1)) (CB κ o q.2) := by
  refine MM.of (by decide +kernel) (Nat.le_of_ble_eq_true rfl) ?_
  intro p e s m below meth c C hnm
  have J22 : ∀ (z : CS), fX9_energy_J22 o z = some q → GC κ p l e s m ([.ref o, .int a1, .int a2] : List Value).toArray below meth c rmX9_energy 7 o (some (Value.int q.1)) (CB κ o q.2) 0 0 z 22 [] [] := by
    intro z h
    unfold fX9_energy_J22 at h
    refine G_bipush (pc' := 24) (v := (-2 : Int32)) C dX9_energy_22 (by decide) rfl ?_
    refine G_widen (k := rmX9_energy.cells) (n := rmX9_energy.slots) (by decide) (by decide) ?_
    obtain rfl := Option.some.inj h
    exact G_iret C dX9_energy_24 (fun _ h => h)
  unfold fX9_energy at h
  refine G_sub (lv' := [(0, .ref o), (1, .int a1), (2, .int a2)]) [0, 1, 2] rfl ?_
  refine G_aload_n (pc' := 1) C dX9_energy_0 0 rfl rfl ?_
  refine G_iload_n (pc' := 2) C dX9_energy_1 1 rfl rfl ?_
  replace h := ob h
  obtain ⟨q1, hq1, h⟩ := h
  refine G_cV0 (pc' := 5) C dX9_energy_2 (tX9_findingOfTold κ l o z a1 q1 hq1) (wV tw_ml_X9_261 tw_im_X9_findingOfTold tw_se_X9_X9_findingOfTold tw_in_X9 tw_co_X9_findingOfTold) yd_X9_findingOfTold rfl fi_X9 (CB_rd 0 rfl) rfl rfl (by decide) rfl (Nat.le_of_ble_eq_true rfl) rfl rfl ?_
  refine G_istore_n (pc' := 6) C dX9_energy_5 [(3, .int q1.1), (0, .ref o), (1, .int a1), (2, .int a2)] (by decide) rfl rfl ?_
  refine G_iload_n (pc' := 7) C dX9_energy_6 0 rfl rfl ?_
  refine G_if_eq (tgt := 12) (pc' := 10) C dX9_energy_7 (by decide) rfl (fun hc => ?_) (fun hc => ?_)
  · replace h := z_ip hc h
    refine G_iload_n (pc' := 13) C dX9_energy_12 3 rfl rfl ?_
    refine G_if_lt (tgt := 22) (pc' := 16) C dX9_energy_13 (by decide) rfl (fun hc => ?_) (fun hc => ?_)
    · replace h := z_ip hc h
      exact G_sub (lv' := []) [] rfl (J22 q1.2 h)
    · replace h := z_in hc h
      refine G_iload_n (pc' := 17) C dX9_energy_16 3 rfl rfl ?_
      refine G_bipush (pc' := 19) (v := (8 : Int32)) C dX9_energy_17 (by decide) rfl ?_
      refine G_icmp_le (tgt := 25) (pc' := 22) C dX9_energy_19 (by decide) rfl (fun hc => ?_) (fun hc => ?_)
      · replace h := z_ip hc h
        refine G_aload_n (pc' := 26) C dX9_energy_25 1 rfl rfl ?_
        refine G_get (pc' := 29) (k := 1) C fi_X9 dX9_energy_26 tw_fl_X9_17 rfl (by decide) (CB_rd 0 rfl) rfl rfl ?_
        refine G_iload_n (pc' := 30) C dX9_energy_29 2 rfl rfl ?_
        replace h := ob h
        obtain ⟨v2, hv2, h⟩ := h
        refine G_aald5V (pc' := 31) C dX9_energy_30 (CB_rd 2 rfl) hv2 rfl ?_
        refine G_qstore (pc' := 33) C dX9_energy_31 [(4, va_rf v2), (3, .int q1.1), (0, .ref o), (1, .int a1), (2, .int a2)] (by decide) rfl rfl ?_
        refine G_aload_n (pc' := 34) C dX9_energy_33 2 rfl rfl ?_
        refine G_get (pc' := 37) (k := 8) C fi_X9 dX9_energy_34 tw_fl_X9_57 rfl (by decide) (CB_rd 0 rfl) rfl rfl ?_
        refine G_qload (pc' := 39) C dX9_energy_37 0 rfl rfl ?_
        replace h := ob h
        obtain ⟨ad3, had3, h⟩ := h
        subst had3
        replace h := ob h
        obtain ⟨q4, hq4, h⟩ := h
        refine G_cV0 (pc' := 42) C dX9_energy_39 (tX6_loadSigns κ l o q1.2 ad3 q4 hq4) (wV tw_ml_X9_285 tw_im_X6_loadSigns tw_se_X6_X6_loadSigns tw_in_X6 tw_co_X6_loadSigns) yd_X6_loadSigns rfl fi_X6 (CB_rd 20 rfl) rfl rfl (by decide) rfl (Nat.le_of_ble_eq_true rfl) rfl rfl ?_
        refine G_iconst (pc' := 43) (v := (0 : Int32)) C dX9_energy_42 (by decide) rfl ?_
        refine G_istore (pc' := 45) C dX9_energy_43 [(5, .int (0 : Int32)), (4, .ref ad3), (3, .int q1.1), (0, .ref o), (1, .int a1), (2, .int a2)] (by decide) rfl rfl ?_
        refine G_iconst (pc' := 46) (v := (0 : Int32)) C dX9_energy_45 (by decide) rfl ?_
        refine G_istore (pc' := 48) C dX9_energy_46 [(6, .int (0 : Int32)), (5, .int (0 : Int32)), (4, .ref ad3), (3, .int q1.1), (0, .ref o), (1, .int a1), (2, .int a2)] (by decide) rfl rfl ?_
        replace h := ob h
        obtain ⟨e11, hle11, h⟩ := h
        refine G_sub (lv' := [(0, .ref o), (2, .int a2), (4, .ref ad3), (5, .int (0 : Int32)), (6, .int (0 : Int32))]) [4, 6, 2, 1, 0] rfl ?_
        refine lpN_ind (body := fun u => fX9_energy_L48 o q4 a2 ad3 u.1 u.2) (P := fun u => GC κ p l e s m ([.ref o, .int a1, .int a2] : List Value).toArray below meth c rmX9_energy 7 o (some (Value.int q.1)) (CB κ o q.2) 0 0 q4 48 [(0, .ref o), (2, .int a2), (4, .ref ad3), (5, .int u.1), (6, .int u.2)] []) (X := fun w => GC κ p l e s m ([.ref o, .int a1, .int a2] : List Value).toArray below meth c rmX9_energy 7 o (some (Value.int q.1)) (CB κ o q.2) 0 0 q4 100 [(5, .int w)] []) (fun u y hb kc kx => tX9_energy_L48 C hb kc kx) _ _ _ hle11 ?_
        refine G_iload (pc' := 102) C dX9_energy_100 0 rfl rfl ?_
        refine G_widen (k := rmX9_energy.cells) (n := rmX9_energy.slots) (by decide) (by decide) ?_
        obtain rfl := Option.some.inj h
        exact G_iret C dX9_energy_102 (fun _ h => h)
      · replace h := z_in hc h
        exact G_sub (lv' := []) [] rfl (J22 q1.2 h)
  · replace h := z_in hc h
    refine G_iload_n (pc' := 11) C dX9_energy_10 0 rfl rfl ?_
    refine G_widen (k := rmX9_energy.cells) (n := rmX9_energy.slots) (by decide) (by decide) ?_
    obtain rfl := Option.some.inj h
    exact G_iret C dX9_energy_11 (fun _ h => h)
