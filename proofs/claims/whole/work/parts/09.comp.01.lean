theorem dX9_isSheet_0 : decode cX9_isSheet 0 = .ok (.iload_n 0, 1) := by decide +kernel
theorem dX9_isSheet_1 : decode cX9_isSheet 1 = .ok (.ifCond .lt 13, 3) := by decide +kernel
theorem dX9_isSheet_4 : decode cX9_isSheet 4 = .ok (.iload_n 0, 1) := by decide +kernel
theorem dX9_isSheet_5 : decode cX9_isSheet 5 = .ok (.bipush 6, 2) := by decide +kernel
theorem dX9_isSheet_7 : decode cX9_isSheet 7 = .ok (.if_icmp .ge 7, 3) := by decide +kernel
theorem dX9_isSheet_10 : decode cX9_isSheet 10 = .ok (.iconst 1, 1) := by decide +kernel
theorem dX9_isSheet_11 : decode cX9_isSheet 11 = .ok (.goto 4, 3) := by decide +kernel
theorem dX9_isSheet_14 : decode cX9_isSheet 14 = .ok (.iconst 0, 1) := by decide +kernel
theorem dX9_isSheet_15 : decode cX9_isSheet 15 = .ok (.ireturn, 1) := by decide +kernel
theorem yd_X9_isSheet : yX9_isSheet.cls ≠ "java/lang/invoke/MethodHandle" ∧ yX9_isSheet.cls ≠ "java/lang/invoke/VarHandle" ∧ (parseMethodDescriptor yX9_isSheet.desc).map (fun d => d.parameters.length) = some 1 := by decide +kernel
abbrev rmX9_isSheet : Room := { frames := 0, cells := 0, slots := 0, locals := 0 }
def fX9_isSheet_J14  : Option (Int32) :=
  some (0 : Int32)
def fX9_isSheet (a1 : Int32) : Option (Int32) :=
  if a1 < 0 then
    fX9_isSheet_J14 
  else
    if (6 : Int32) ≤ a1 then
      fX9_isSheet_J14 
    else
      some (1 : Int32)
set_option maxHeartbeats 4000000 in
set_option maxRecDepth 100000 in
theorem tX9_isSheet (κ : KK) (l : Launch) (A : Nat → Prop) (B : Heap → Prop) (a1 : Int32) (q : Int32) (h : fX9_isSheet a1 = some q) : MM κ l yX9_isSheet cX9_isSheet 1 (some .boolean) rmX9_isSheet A [.int a1] B (some (Value.int q)) B := by
  refine MM.of (by decide +kernel) (Nat.le_of_ble_eq_true rfl) ?_
  intro p e s m below meth c C hnm
  have J14 : fX9_isSheet_J14  = some q → GT p l e s m ([.int a1] : List Value).toArray below meth c rmX9_isSheet 1 A (some (Value.int q)) B B 14 [] [] := by
    intro  h
    unfold fX9_isSheet_J14 at h
    refine G_iconst (pc' := 15) (v := (0 : Int32)) C dX9_isSheet_14 (by decide) rfl ?_
    obtain rfl := Option.some.inj h
    exact G_zret (v := (0 : Int32)) C rfl dX9_isSheet_15 (fun _ h => h)
  unfold fX9_isSheet at h
  refine G_sub (lv' := [(0, .int a1)]) [0] rfl ?_
  refine G_iload_n (pc' := 1) C dX9_isSheet_0 0 rfl rfl ?_
  refine G_if_lt (tgt := 14) (pc' := 4) C dX9_isSheet_1 (by decide) rfl (fun hc => ?_) (fun hc => ?_)
  · replace h := z_ip hc h
    exact G_sub (lv' := []) [] rfl (J14  h)
  · replace h := z_in hc h
    refine G_iload_n (pc' := 5) C dX9_isSheet_4 0 rfl rfl ?_
    refine G_bipush (pc' := 7) (v := (6 : Int32)) C dX9_isSheet_5 (by decide) rfl ?_
    refine G_icmp_ge (tgt := 14) (pc' := 10) C dX9_isSheet_7 (by decide) rfl (fun hc => ?_) (fun hc => ?_)
    · replace h := z_ip hc h
      exact G_sub (lv' := []) [] rfl (J14  h)
    · replace h := z_in hc h
      refine G_iconst (pc' := 11) (v := (1 : Int32)) C dX9_isSheet_10 (by decide) rfl ?_
      refine G_goto (tgt := 15) C dX9_isSheet_11 (by decide) ?_
      obtain rfl := Option.some.inj h
      exact G_zret (v := (1 : Int32)) C rfl dX9_isSheet_15 (fun _ h => h)
theorem dX9_isSort_0 : decode cX9_isSort 0 = .ok (.iload_n 0, 1) := by decide +kernel
theorem dX9_isSort_1 : decode cX9_isSort 1 = .ok (.ifCond .lt 12, 3) := by decide +kernel
theorem dX9_isSort_4 : decode cX9_isSort 4 = .ok (.iload_n 0, 1) := by decide +kernel
theorem dX9_isSort_5 : decode cX9_isSort 5 = .ok (.iconst 3, 1) := by decide +kernel
theorem dX9_isSort_6 : decode cX9_isSort 6 = .ok (.if_icmp .gt 7, 3) := by decide +kernel
theorem dX9_isSort_9 : decode cX9_isSort 9 = .ok (.iconst 1, 1) := by decide +kernel
theorem dX9_isSort_10 : decode cX9_isSort 10 = .ok (.goto 4, 3) := by decide +kernel
theorem dX9_isSort_13 : decode cX9_isSort 13 = .ok (.iconst 0, 1) := by decide +kernel
theorem dX9_isSort_14 : decode cX9_isSort 14 = .ok (.ireturn, 1) := by decide +kernel
theorem yd_X9_isSort : yX9_isSort.cls ≠ "java/lang/invoke/MethodHandle" ∧ yX9_isSort.cls ≠ "java/lang/invoke/VarHandle" ∧ (parseMethodDescriptor yX9_isSort.desc).map (fun d => d.parameters.length) = some 1 := by decide +kernel
abbrev rmX9_isSort : Room := { frames := 0, cells := 0, slots := 0, locals := 0 }
def fX9_isSort_J13  : Option (Int32) :=
  some (0 : Int32)
def fX9_isSort (a1 : Int32) : Option (Int32) :=
  if a1 < 0 then
    fX9_isSort_J13 
  else
    if (3 : Int32) < a1 then
      fX9_isSort_J13 
    else
      some (1 : Int32)
set_option maxHeartbeats 4000000 in
set_option maxRecDepth 100000 in
theorem tX9_isSort (κ : KK) (l : Launch) (A : Nat → Prop) (B : Heap → Prop) (a1 : Int32) (q : Int32) (h : fX9_isSort a1 = some q) : MM κ l yX9_isSort cX9_isSort 1 (some .boolean) rmX9_isSort A [.int a1] B (some (Value.int q)) B := by
  refine MM.of (by decide +kernel) (Nat.le_of_ble_eq_true rfl) ?_
  intro p e s m below meth c C hnm
  have J13 : fX9_isSort_J13  = some q → GT p l e s m ([.int a1] : List Value).toArray below meth c rmX9_isSort 1 A (some (Value.int q)) B B 13 [] [] := by
    intro  h
    unfold fX9_isSort_J13 at h
    refine G_iconst (pc' := 14) (v := (0 : Int32)) C dX9_isSort_13 (by decide) rfl ?_
    obtain rfl := Option.some.inj h
    exact G_zret (v := (0 : Int32)) C rfl dX9_isSort_14 (fun _ h => h)
  unfold fX9_isSort at h
  refine G_sub (lv' := [(0, .int a1)]) [0] rfl ?_
  refine G_iload_n (pc' := 1) C dX9_isSort_0 0 rfl rfl ?_
  refine G_if_lt (tgt := 13) (pc' := 4) C dX9_isSort_1 (by decide) rfl (fun hc => ?_) (fun hc => ?_)
  · replace h := z_ip hc h
    exact G_sub (lv' := []) [] rfl (J13  h)
  · replace h := z_in hc h
    refine G_iload_n (pc' := 5) C dX9_isSort_4 0 rfl rfl ?_
    refine G_iconst (pc' := 6) (v := (3 : Int32)) C dX9_isSort_5 (by decide) rfl ?_
    refine G_icmp_gt (tgt := 13) (pc' := 9) C dX9_isSort_6 (by decide) rfl (fun hc => ?_) (fun hc => ?_)
    · replace h := z_ip hc h
      exact G_sub (lv' := []) [] rfl (J13  h)
    · replace h := z_in hc h
      refine G_iconst (pc' := 10) (v := (1 : Int32)) C dX9_isSort_9 (by decide) rfl ?_
      refine G_goto (tgt := 14) C dX9_isSort_10 (by decide) ?_
      obtain rfl := Option.some.inj h
      exact G_zret (v := (1 : Int32)) C rfl dX9_isSort_14 (fun _ h => h)
theorem dX7_init_0 : decode cX7_init 0 = .ok (.aload_n 0, 1) := by decide +kernel
theorem dX7_init_1 : decode cX7_init 1 = .ok (.invokespecial 1, 3) := by decide +kernel
theorem dX7_init_4 : decode cX7_init 4 = .ok (.aload_n 0, 1) := by decide +kernel
theorem dX7_init_5 : decode cX7_init 5 = .ok (.iload_n 1, 1) := by decide +kernel
theorem dX7_init_6 : decode cX7_init 6 = .ok (.putfield 7, 3) := by decide +kernel
theorem dX7_init_9 : decode cX7_init 9 = .ok (.aload_n 0, 1) := by decide +kernel
theorem dX7_init_10 : decode cX7_init 10 = .ok (.iload_n 2, 1) := by decide +kernel
theorem dX7_init_11 : decode cX7_init 11 = .ok (.newarray .long, 2) := by decide +kernel
theorem dX7_init_13 : decode cX7_init 13 = .ok (.putfield 13, 3) := by decide +kernel
theorem dX7_init_16 : decode cX7_init 16 = .ok (.return_, 1) := by decide +kernel
theorem yi_X7_init : yX7_init.cls ≠ "java/lang/invoke/MethodHandle" ∧ yX7_init.cls ≠ "java/lang/invoke/VarHandle" ∧ (parseMethodDescriptor yX7_init.desc).map (fun d => d.parameters.length) = some 2 := by decide +kernel
abbrev rmX7_init : Room := { frames := 1, cells := 1, slots := 256, locals := 24 }
def fX7_init (o : Nat) (z : CS) (a0 : Nat) (a1 : Int32) (a2 : Int32) : Option (CS) :=
  (stS o z a0 a1).bind fun z1 =>
  (alL o z1 a2).bind fun u2 =>
  (stSs o u2.2 a0 u2.1).bind fun z3 =>
  some z3
set_option maxHeartbeats 4000000 in
set_option maxRecDepth 100000 in
theorem tX7_init (κ : KK) (l : Launch) (o : Nat) (z : CS) (a0 : Nat) (a1 : Int32) (a2 : Int32) (q : CS) (h : fX7_init o z a0 a1 a2 = some q) : MM κ l yX7_init cX7_init 3 none rmX7_init (CA o) [.ref a0, .int a1, .int a2] (CB κ o z) none (CB κ o q) := by
  refine MM.of (by decide +kernel) (Nat.le_of_ble_eq_true rfl) ?_
  intro p e s m below meth c C hnm
  unfold fX7_init at h
  refine G_sub (lv' := [(0, .ref a0), (1, .int a1), (2, .int a2)]) [0, 1, 2] rfl ?_
  refine G_aload_n (pc' := 1) C dX7_init_0 0 rfl rfl ?_
  refine G_objInit (pc' := 4) C dX7_init_1 tw_ml_X7_1 tw_im_java_lang_Object_init_ tw_co_java_lang_Object_init_ (by decide) rfl ?_
  refine G_aload_n (pc' := 5) C dX7_init_4 0 rfl rfl ?_
  refine G_iload_n (pc' := 6) C dX7_init_5 1 rfl rfl ?_
  replace h := ob h
  obtain ⟨z1, hz1, h⟩ := h
  refine P_pS0 (pc' := 9) C hnm dX7_init_6 hz1 rfl ?_
  refine G_aload_n (pc' := 10) C dX7_init_9 0 rfl rfl ?_
  refine G_iload_n (pc' := 11) C dX7_init_10 2 rfl rfl ?_
  replace h := ob h
  obtain ⟨u2, hu2, h⟩ := h
  refine P_newL (pc' := 13) C dX7_init_11 hu2 (by decide) rfl ?_
  replace h := ob h
  obtain ⟨z3, hz3, h⟩ := h
  refine P_pS1 (pc' := 16) C hnm dX7_init_13 hz3 rfl ?_
  refine G_widen (k := rmX7_init.cells) (n := rmX7_init.slots) (by decide) (by decide) ?_
  obtain rfl := Option.some.inj h
  exact G_vret C dX7_init_16 (fun _ h => h)
theorem dX9_counted_0 : decode cX9_counted 0 = .ok (.aload_n 0, 1) := by decide +kernel
theorem dX9_counted_1 : decode cX9_counted 1 = .ok (.dup, 1) := by decide +kernel
theorem dX9_counted_2 : decode cX9_counted 2 = .ok (.getfield 93, 3) := by decide +kernel
theorem dX9_counted_5 : decode cX9_counted 5 = .ok (.iconst 1, 1) := by decide +kernel
theorem dX9_counted_6 : decode cX9_counted 6 = .ok (.iadd, 1) := by decide +kernel
theorem dX9_counted_7 : decode cX9_counted 7 = .ok (.putfield 93, 3) := by decide +kernel
theorem dX9_counted_10 : decode cX9_counted 10 = .ok (.iload_n 1, 1) := by decide +kernel
theorem dX9_counted_11 : decode cX9_counted 11 = .ok (.ireturn, 1) := by decide +kernel
theorem yd_X9_counted : yX9_counted.cls = RX9 ∧ yX9_counted.cls ≠ "java/lang/invoke/MethodHandle" ∧ yX9_counted.cls ≠ "java/lang/invoke/VarHandle" ∧ (parseMethodDescriptor yX9_counted.desc).map (fun d => d.parameters.length) = some 1 := by decide +kernel
abbrev rmX9_counted : Room := { frames := 0, cells := 0, slots := 0, locals := 0 }
def fX9_counted (o : Nat) (z : CS) (a1 : Int32) : Option (Int32 × CS) :=
  some (a1, (cI z 3 ((z.1 3) + (1 : Int32))))
set_option maxHeartbeats 4000000 in
set_option maxRecDepth 100000 in
theorem tX9_counted (κ : KK) (l : Launch) (o : Nat) (z : CS) (a1 : Int32) (q : Int32 × CS) (h : fX9_counted o z a1 = some q) : MM κ l yX9_counted cX9_counted 2 (some .int) rmX9_counted (CA o) [.ref o, .int a1] (CB κ o z) (some (Value.int q.1)) (CB κ o q.2) := by
  refine MM.of (by decide +kernel) (Nat.le_of_ble_eq_true rfl) ?_
  intro p e s m below meth c C hnm
  unfold fX9_counted at h
  refine G_sub (lv' := [(0, .ref o), (1, .int a1)]) [0, 1] rfl ?_
  refine G_aload_n (pc' := 1) C dX9_counted_0 0 rfl rfl ?_
  refine G_dup (pc' := 2) C dX9_counted_1 rfl rfl ?_
  refine G_get (pc' := 5) (k := 15) C fi_X9 dX9_counted_2 tw_fl_X9_93 rfl (by decide) (CB_rd 0 rfl) rfl rfl ?_
  refine G_iconst (pc' := 6) (v := (1 : Int32)) C dX9_counted_5 (by decide) rfl ?_
  refine G_iadd (pc' := 7) C dX9_counted_6 rfl ?_
  refine G_put (pc' := 10) (k := 15) C fi_X9 dX9_counted_7 tw_fl_X9_93 rfl (by decide) rfl rfl rfl (Nat.le_of_ble_eq_true rfl) (CB_rd 0 rfl) (CB_wr (cI z 3 ((z.1 3) + (1 : Int32))) 0 (by decide) rfl rfl) rfl ?_
  refine G_iload_n (pc' := 11) C dX9_counted_10 1 rfl rfl ?_
  refine G_widen (k := rmX9_counted.cells) (n := rmX9_counted.slots) (by decide) (by decide) ?_
  obtain rfl := Option.some.inj h
  exact G_iret C dX9_counted_11 (fun _ h => h)
theorem dX9_sheet_0 : decode cX9_sheet 0 = .ok (.iload_n 1, 1) := by decide +kernel
theorem dX9_sheet_1 : decode cX9_sheet 1 = .ok (.invokestatic 96, 3) := by decide +kernel
theorem dX9_sheet_4 : decode cX9_sheet 4 = .ok (.ifCond .eq 17, 3) := by decide +kernel
theorem dX9_sheet_7 : decode cX9_sheet 7 = .ok (.iload_n 2, 1) := by decide +kernel
theorem dX9_sheet_8 : decode cX9_sheet 8 = .ok (.invokestatic 100, 3) := by decide +kernel
theorem dX9_sheet_11 : decode cX9_sheet 11 = .ok (.ifCond .eq 10, 3) := by decide +kernel
theorem dX9_sheet_14 : decode cX9_sheet 14 = .ok (.iload_n 3, 1) := by decide +kernel
theorem dX9_sheet_15 : decode cX9_sheet 15 = .ok (.sipush 256, 3) := by decide +kernel
theorem dX9_sheet_18 : decode cX9_sheet 18 = .ok (.if_icmp .le 6, 3) := by decide +kernel
theorem dX9_sheet_21 : decode cX9_sheet 21 = .ok (.bipush (-2), 2) := by decide +kernel
theorem dX9_sheet_23 : decode cX9_sheet 23 = .ok (.ireturn, 1) := by decide +kernel
theorem dX9_sheet_24 : decode cX9_sheet 24 = .ok (.iload_n 3, 1) := by decide +kernel
theorem dX9_sheet_25 : decode cX9_sheet 25 = .ok (.ifCond .ge 10, 3) := by decide +kernel
theorem dX9_sheet_28 : decode cX9_sheet 28 = .ok (.aload_n 0, 1) := by decide +kernel
theorem dX9_sheet_29 : decode cX9_sheet 29 = .ok (.bipush (-13), 2) := by decide +kernel
theorem dX9_sheet_31 : decode cX9_sheet 31 = .ok (.invokevirtual 103, 3) := by decide +kernel
theorem dX9_sheet_34 : decode cX9_sheet 34 = .ok (.ireturn, 1) := by decide +kernel
theorem dX9_sheet_35 : decode cX9_sheet 35 = .ok (.aload_n 0, 1) := by decide +kernel
theorem dX9_sheet_36 : decode cX9_sheet 36 = .ok (.getfield 11, 3) := by decide +kernel
theorem dX9_sheet_39 : decode cX9_sheet 39 = .ok (.iload_n 1, 1) := by decide +kernel
theorem dX9_sheet_40 : decode cX9_sheet 40 = .ok (.new 9, 3) := by decide +kernel
theorem dX9_sheet_43 : decode cX9_sheet 43 = .ok (.dup, 1) := by decide +kernel
theorem dX9_sheet_44 : decode cX9_sheet 44 = .ok (.iload_n 2, 1) := by decide +kernel
theorem dX9_sheet_45 : decode cX9_sheet 45 = .ok (.iload_n 3, 1) := by decide +kernel
theorem dX9_sheet_46 : decode cX9_sheet 46 = .ok (.invokespecial 107, 3) := by decide +kernel
theorem dX9_sheet_49 : decode cX9_sheet 49 = .ok (.aastore, 1) := by decide +kernel
theorem dX9_sheet_50 : decode cX9_sheet 50 = .ok (.iload_n 3, 1) := by decide +kernel
theorem dX9_sheet_51 : decode cX9_sheet 51 = .ok (.ireturn, 1) := by decide +kernel
theorem yd_X9_sheet : yX9_sheet.cls = RX9 ∧ yX9_sheet.cls ≠ "java/lang/invoke/MethodHandle" ∧ yX9_sheet.cls ≠ "java/lang/invoke/VarHandle" ∧ (parseMethodDescriptor yX9_sheet.desc).map (fun d => d.parameters.length) = some 3 := by decide +kernel
abbrev rmX9_sheet : Room := { frames := 2, cells := 2, slots := 258, locals := 46 }
def fX9_sheet_J21 (o : Nat) (z : CS) : Option (Int32 × CS) :=
  some ((-2 : Int32), z)
def fX9_sheet (o : Nat) (z : CS) (a1 : Int32) (a2 : Int32) (a3 : Int32) : Option (Int32 × CS) :=
  (fX9_isSheet a1).bind fun q1 =>
  if q1 = 0 then
    fX9_sheet_J21 o z
  else
    (fX9_isSort a2).bind fun q2 =>
    if q2 = 0 then
      fX9_sheet_J21 o z
    else
      if a3 ≤ (256 : Int32) then
        if 0 ≤ a3 then
          (alS o z).bind fun u3 =>
          (fX7_init o u3.2 u3.1 a2 a3).bind fun q4 =>
          (stQS q4 a1 (some u3.1)).bind fun z5 =>
          some (a3, z5)
        else
          (fX9_counted o z (-13 : Int32)).bind fun q6 =>
          some (q6.1, q6.2)
      else
        fX9_sheet_J21 o z
set_option maxHeartbeats 4000000 in
set_option maxRecDepth 100000 in
theorem tX9_sheet (κ : KK) (l : Launch) (o : Nat) (z : CS) (a1 : Int32) (a2 : Int32) (a3 : Int32) (q : Int32 × CS) (h : fX9_sheet o z a1 a2 a3 = some q) : MM κ l yX9_sheet cX9_sheet 4 (some .int) rmX9_sheet (CA o) [.ref o, .int a1, .int a2, .int a3] (CB κ o z) (some (Value.int q.1)) (CB κ o q.2) := by
  refine MM.of (by decide +kernel) (Nat.le_of_ble_eq_true rfl) ?_
  intro p e s m below meth c C hnm
  have J21 : ∀ (z : CS), fX9_sheet_J21 o z = some q → GC κ p l e s m ([.ref o, .int a1, .int a2, .int a3] : List Value).toArray below meth c rmX9_sheet 4 o (some (Value.int q.1)) (CB κ o q.2) 0 0 z 21 [] [] := by
    intro z h
    unfold fX9_sheet_J21 at h
    refine G_bipush (pc' := 23) (v := (-2 : Int32)) C dX9_sheet_21 (by decide) rfl ?_
    refine G_widen (k := rmX9_sheet.cells) (n := rmX9_sheet.slots) (by decide) (by decide) ?_
    obtain rfl := Option.some.inj h
    exact G_iret C dX9_sheet_23 (fun _ h => h)
  unfold fX9_sheet at h
  refine G_sub (lv' := [(0, .ref o), (1, .int a1), (2, .int a2), (3, .int a3)]) [0, 1, 2, 3] rfl ?_
  refine G_iload_n (pc' := 1) C dX9_sheet_0 1 rfl rfl ?_
  replace h := ob h
  obtain ⟨q1, hq1, h⟩ := h
  refine G_cS0 (pc' := 4) C dX9_sheet_1 (tX9_isSheet κ l (CA o) (CB κ o z) a1 q1 hq1) (wS tw_ml_X9_96 tw_st_X9_isSheet tw_co_X9_isSheet tw_in_X9) yd_X9_isSheet rfl rfl rfl (by decide) rfl (Nat.le_of_ble_eq_true rfl) rfl rfl ?_
  refine G_if_eq (tgt := 21) (pc' := 7) C dX9_sheet_4 (by decide) rfl (fun hc => ?_) (fun hc => ?_)
  · replace h := z_ip hc h
    exact G_sub (lv' := []) [] rfl (J21 z h)
  · replace h := z_in hc h
    refine G_iload_n (pc' := 8) C dX9_sheet_7 2 rfl rfl ?_
    replace h := ob h
    obtain ⟨q2, hq2, h⟩ := h
    refine G_cS0 (pc' := 11) C dX9_sheet_8 (tX9_isSort κ l (CA o) (CB κ o z) a2 q2 hq2) (wS tw_ml_X9_100 tw_st_X9_isSort tw_co_X9_isSort tw_in_X9) yd_X9_isSort rfl rfl rfl (by decide) rfl (Nat.le_of_ble_eq_true rfl) rfl rfl ?_
    refine G_if_eq (tgt := 21) (pc' := 14) C dX9_sheet_11 (by decide) rfl (fun hc => ?_) (fun hc => ?_)
    · replace h := z_ip hc h
      exact G_sub (lv' := []) [] rfl (J21 z h)
    · replace h := z_in hc h
      refine G_iload_n (pc' := 15) C dX9_sheet_14 3 rfl rfl ?_
      refine G_sipush (pc' := 18) (v := (256 : Int32)) C dX9_sheet_15 (by decide) rfl ?_
      refine G_icmp_le (tgt := 24) (pc' := 21) C dX9_sheet_18 (by decide) rfl (fun hc => ?_) (fun hc => ?_)
      · replace h := z_ip hc h
        refine G_iload_n (pc' := 25) C dX9_sheet_24 3 rfl rfl ?_
        refine G_if_ge (tgt := 35) (pc' := 28) C dX9_sheet_25 (by decide) rfl (fun hc => ?_) (fun hc => ?_)
        · replace h := z_ip hc h
          refine G_aload_n (pc' := 36) C dX9_sheet_35 0 rfl rfl ?_
          refine G_get (pc' := 39) (k := 0) C fi_X9 dX9_sheet_36 tw_fl_X9_11 rfl (by decide) (CB_rd 0 rfl) rfl rfl ?_
          refine G_iload_n (pc' := 40) C dX9_sheet_39 1 rfl rfl ?_
          replace h := ob h
          obtain ⟨u3, hu3, h⟩ := h
          refine P_newS (pc' := 43) C dX9_sheet_40 tw_cl_X9_9 hu3 (by decide) rfl ?_
          refine G_dup (pc' := 44) C dX9_sheet_43 rfl rfl ?_
          refine G_iload_n (pc' := 45) C dX9_sheet_44 2 rfl rfl ?_
          refine G_iload_n (pc' := 46) C dX9_sheet_45 3 rfl rfl ?_
          replace h := ob h
          obtain ⟨q4, hq4, h⟩ := h
          refine G_cI (pc' := 49) C dX9_sheet_46 (tX7_init κ l o u3.2 u3.1 a2 a3 q4 hq4) ⟨tw_ml_X9_107, tw_im_X7_init, tw_co_X7_init, tw_in_X7⟩ rfl yi_X7_init rfl (by decide) rfl (Nat.le_of_ble_eq_true rfl) rfl ?_
          replace h := ob h
          obtain ⟨z5, hz5, h⟩ := h
          refine C_q_sheets (pc' := 50) (x := (some u3.1)) C dX9_sheet_49 hz5 rfl ?_
          refine G_iload_n (pc' := 51) C dX9_sheet_50 3 rfl rfl ?_
          refine G_widen (k := rmX9_sheet.cells) (n := rmX9_sheet.slots) (by decide) (by decide) ?_
          obtain rfl := Option.some.inj h
          exact G_iret C dX9_sheet_51 (fun _ h => h)
        · replace h := z_in hc h
          refine G_aload_n (pc' := 29) C dX9_sheet_28 0 rfl rfl ?_
          refine G_bipush (pc' := 31) (v := (-13 : Int32)) C dX9_sheet_29 (by decide) rfl ?_
          replace h := ob h
          obtain ⟨q6, hq6, h⟩ := h
          refine G_cV0 (pc' := 34) C dX9_sheet_31 (tX9_counted κ l o z (-13 : Int32) q6 hq6) (wV tw_ml_X9_103 tw_im_X9_counted tw_se_X9_X9_counted tw_in_X9 tw_co_X9_counted) yd_X9_counted rfl fi_X9 (CB_rd 0 rfl) rfl rfl (by decide) rfl (Nat.le_of_ble_eq_true rfl) rfl rfl ?_
          refine G_widen (k := rmX9_sheet.cells) (n := rmX9_sheet.slots) (by decide) (by decide) ?_
          obtain rfl := Option.some.inj h
          exact G_iret C dX9_sheet_34 (fun _ h => h)
      · replace h := z_in hc h
        exact G_sub (lv' := []) [] rfl (J21 z h)
theorem dX9_lose_0 : decode cX9_lose 0 = .ok (.iload_n 1, 1) := by decide +kernel
theorem dX9_lose_1 : decode cX9_lose 1 = .ok (.invokestatic 96, 3) := by decide +kernel
theorem dX9_lose_4 : decode cX9_lose 4 = .ok (.ifCond .ne 6, 3) := by decide +kernel
theorem dX9_lose_7 : decode cX9_lose 7 = .ok (.bipush (-2), 2) := by decide +kernel
theorem dX9_lose_9 : decode cX9_lose 9 = .ok (.ireturn, 1) := by decide +kernel
theorem dX9_lose_10 : decode cX9_lose 10 = .ok (.aload_n 0, 1) := by decide +kernel
theorem dX9_lose_11 : decode cX9_lose 11 = .ok (.getfield 11, 3) := by decide +kernel
theorem dX9_lose_14 : decode cX9_lose 14 = .ok (.iload_n 1, 1) := by decide +kernel
theorem dX9_lose_15 : decode cX9_lose 15 = .ok (.aaload, 1) := by decide +kernel
theorem dX9_lose_16 : decode cX9_lose 16 = .ok (.ifnonnull 7, 3) := by decide +kernel
theorem dX9_lose_19 : decode cX9_lose 19 = .ok (.iconst 0, 1) := by decide +kernel
theorem dX9_lose_20 : decode cX9_lose 20 = .ok (.goto 4, 3) := by decide +kernel
theorem dX9_lose_23 : decode cX9_lose 23 = .ok (.iconst 1, 1) := by decide +kernel
theorem dX9_lose_24 : decode cX9_lose 24 = .ok (.istore_n 2, 1) := by decide +kernel
theorem dX9_lose_25 : decode cX9_lose 25 = .ok (.aload_n 0, 1) := by decide +kernel
theorem dX9_lose_26 : decode cX9_lose 26 = .ok (.getfield 11, 3) := by decide +kernel
theorem dX9_lose_29 : decode cX9_lose 29 = .ok (.iload_n 1, 1) := by decide +kernel
theorem dX9_lose_30 : decode cX9_lose 30 = .ok (.aconst_null, 1) := by decide +kernel
theorem dX9_lose_31 : decode cX9_lose 31 = .ok (.aastore, 1) := by decide +kernel
theorem dX9_lose_32 : decode cX9_lose 32 = .ok (.iload_n 2, 1) := by decide +kernel
theorem dX9_lose_33 : decode cX9_lose 33 = .ok (.ireturn, 1) := by decide +kernel
theorem yd_X9_lose : yX9_lose.cls = RX9 ∧ yX9_lose.cls ≠ "java/lang/invoke/MethodHandle" ∧ yX9_lose.cls ≠ "java/lang/invoke/VarHandle" ∧ (parseMethodDescriptor yX9_lose.desc).map (fun d => d.parameters.length) = some 1 := by decide +kernel
abbrev rmX9_lose : Room := { frames := 1, cells := 0, slots := 0, locals := 20 }
def fX9_lose_J24 (o : Nat) (z : CS) (l1 : Int32) (s0 : Int32) : Option (Int32 × CS) :=
  (stQS z l1 none).bind fun z4 =>
  some (s0, z4)
def fX9_lose (o : Nat) (z : CS) (a1 : Int32) : Option (Int32 × CS) :=
  (fX9_isSheet a1).bind fun q1 =>
  if q1 = 0 then
    some ((-2 : Int32), z)
  else
    (aQ 6 (z.2.2.1 0) a1).bind fun v2 =>
    qc v2
      (
        fX9_lose_J24 o z a1 (0 : Int32)
      )
      (fun ad3 =>
        fX9_lose_J24 o z a1 (1 : Int32)
      )
set_option maxHeartbeats 4000000 in
set_option maxRecDepth 100000 in
theorem tX9_lose (κ : KK) (l : Launch) (o : Nat) (z : CS) (a1 : Int32) (q : Int32 × CS) (h : fX9_lose o z a1 = some q) : MM κ l yX9_lose cX9_lose 3 (some .int) rmX9_lose (CA o) [.ref o, .int a1] (CB κ o z) (some (Value.int q.1)) (CB κ o q.2) := by
  refine MM.of (by decide +kernel) (Nat.le_of_ble_eq_true rfl) ?_
  intro p e s m below meth c C hnm
  have J24 : ∀ (z : CS) (l1 : Int32) (s0 : Int32), fX9_lose_J24 o z l1 s0 = some q → GC κ p l e s m ([.ref o, .int a1] : List Value).toArray below meth c rmX9_lose 3 o (some (Value.int q.1)) (CB κ o q.2) 0 0 z 24 [(0, .ref o), (1, .int l1)] [.int s0] := by
    intro z l1 s0 h
    unfold fX9_lose_J24 at h
    refine G_istore_n (pc' := 25) C dX9_lose_24 [(2, .int s0), (0, .ref o), (1, .int l1)] (by decide) rfl rfl ?_
    refine G_aload_n (pc' := 26) C dX9_lose_25 1 rfl rfl ?_
    refine G_get (pc' := 29) (k := 0) C fi_X9 dX9_lose_26 tw_fl_X9_11 rfl (by decide) (CB_rd 0 rfl) rfl rfl ?_
    refine G_iload_n (pc' := 30) C dX9_lose_29 2 rfl rfl ?_
    refine G_null (pc' := 31) C dX9_lose_30 rfl ?_
    replace h := ob h
    obtain ⟨z4, hz4, h⟩ := h
    refine C_q_sheets (pc' := 32) (x := none) C dX9_lose_31 hz4 rfl ?_
    refine G_iload_n (pc' := 33) C dX9_lose_32 0 rfl rfl ?_
    refine G_widen (k := rmX9_lose.cells) (n := rmX9_lose.slots) (by decide) (by decide) ?_
    obtain rfl := Option.some.inj h
    exact G_iret C dX9_lose_33 (fun _ h => h)
  unfold fX9_lose at h
  refine G_sub (lv' := [(0, .ref o), (1, .int a1)]) [0, 1] rfl ?_
  refine G_iload_n (pc' := 1) C dX9_lose_0 1 rfl rfl ?_
  replace h := ob h
  obtain ⟨q1, hq1, h⟩ := h
  refine G_cS0 (pc' := 4) C dX9_lose_1 (tX9_isSheet κ l (CA o) (CB κ o z) a1 q1 hq1) (wS tw_ml_X9_96 tw_st_X9_isSheet tw_co_X9_isSheet tw_in_X9) yd_X9_isSheet rfl rfl rfl (by decide) rfl (Nat.le_of_ble_eq_true rfl) rfl rfl ?_
  refine G_if_ne (tgt := 10) (pc' := 7) C dX9_lose_4 (by decide) rfl (fun hc => ?_) (fun hc => ?_)
  · replace h := z_in hc h
    refine G_aload_n (pc' := 11) C dX9_lose_10 0 rfl rfl ?_
    refine G_get (pc' := 14) (k := 0) C fi_X9 dX9_lose_11 tw_fl_X9_11 rfl (by decide) (CB_rd 0 rfl) rfl rfl ?_
    refine G_iload_n (pc' := 15) C dX9_lose_14 1 rfl rfl ?_
    replace h := ob h
    obtain ⟨v2, hv2, h⟩ := h
    refine G_aald4V (pc' := 16) C dX9_lose_15 (CB_rd 1 rfl) hv2 rfl ?_
    refine G_ifnonnull (tgt := 23) (pc' := 19) C dX9_lose_16 (by decide) rfl (fun ad3 hc => ?_) (fun hc => ?_)
    · replace h := z_qs hc h
      subst hc
      refine G_iconst (pc' := 24) (v := (1 : Int32)) C dX9_lose_23 (by decide) rfl ?_
      exact G_sub (lv' := [(0, .ref o), (1, .int a1)]) [0, 1] rfl (J24 z a1 (1 : Int32) h)
    · replace h := z_qn hc h
      refine G_iconst (pc' := 20) (v := (0 : Int32)) C dX9_lose_19 (by decide) rfl ?_
      refine G_goto (tgt := 24) C dX9_lose_20 (by decide) ?_
      exact G_sub (lv' := [(0, .ref o), (1, .int a1)]) [0, 1] rfl (J24 z a1 (0 : Int32) h)
  · replace h := z_ip hc h
    refine G_bipush (pc' := 9) (v := (-2 : Int32)) C dX9_lose_7 (by decide) rfl ?_
    refine G_widen (k := rmX9_lose.cells) (n := rmX9_lose.slots) (by decide) (by decide) ?_
    obtain rfl := Option.some.inj h
    exact G_iret C dX9_lose_9 (fun _ h => h)
theorem dX9_narrowed_0 : decode cX9_narrowed 0 = .ok (.iload_n 0, 1) := by decide +kernel
theorem dX9_narrowed_1 : decode cX9_narrowed 1 = .ok (.tableswitch 41 0 2 #[27, 32, 37], 27) := by decide +kernel
theorem dX9_narrowed_28 : decode cX9_narrowed 28 = .ok (.lload_n 1, 1) := by decide +kernel
theorem dX9_narrowed_29 : decode cX9_narrowed 29 = .ok (.l2i, 1) := by decide +kernel
theorem dX9_narrowed_30 : decode cX9_narrowed 30 = .ok (.i2b, 1) := by decide +kernel
theorem dX9_narrowed_31 : decode cX9_narrowed 31 = .ok (.i2l, 1) := by decide +kernel
theorem dX9_narrowed_32 : decode cX9_narrowed 32 = .ok (.lreturn, 1) := by decide +kernel
theorem dX9_narrowed_33 : decode cX9_narrowed 33 = .ok (.lload_n 1, 1) := by decide +kernel
theorem dX9_narrowed_34 : decode cX9_narrowed 34 = .ok (.l2i, 1) := by decide +kernel
theorem dX9_narrowed_35 : decode cX9_narrowed 35 = .ok (.i2s, 1) := by decide +kernel
theorem dX9_narrowed_36 : decode cX9_narrowed 36 = .ok (.i2l, 1) := by decide +kernel
theorem dX9_narrowed_37 : decode cX9_narrowed 37 = .ok (.lreturn, 1) := by decide +kernel
theorem dX9_narrowed_38 : decode cX9_narrowed 38 = .ok (.lload_n 1, 1) := by decide +kernel
theorem dX9_narrowed_39 : decode cX9_narrowed 39 = .ok (.l2i, 1) := by decide +kernel
theorem dX9_narrowed_40 : decode cX9_narrowed 40 = .ok (.i2l, 1) := by decide +kernel
theorem dX9_narrowed_41 : decode cX9_narrowed 41 = .ok (.lreturn, 1) := by decide +kernel
theorem dX9_narrowed_42 : decode cX9_narrowed 42 = .ok (.lload_n 1, 1) := by decide +kernel
theorem dX9_narrowed_43 : decode cX9_narrowed 43 = .ok (.lreturn, 1) := by decide +kernel
theorem yd_X9_narrowed : yX9_narrowed.cls ≠ "java/lang/invoke/MethodHandle" ∧ yX9_narrowed.cls ≠ "java/lang/invoke/VarHandle" ∧ (parseMethodDescriptor yX9_narrowed.desc).map (fun d => d.parameters.length) = some 2 := by decide +kernel
abbrev rmX9_narrowed : Room := { frames := 0, cells := 0, slots := 0, locals := 0 }
def fX9_narrowed (a1 : Int32) (a2 : Int64) : Option (Int64) :=
  if a1 = (0 : Int32) then
    some (Int32.toInt64 (Int8.toInt32 (Int32.toInt8 (Int64.toInt32 a2))))
  else
  if a1 = (1 : Int32) then
    some (Int32.toInt64 (Int16.toInt32 (Int32.toInt16 (Int64.toInt32 a2))))
  else
  if a1 = (2 : Int32) then
    some (Int32.toInt64 (Int64.toInt32 a2))
  else
    some a2
set_option maxHeartbeats 4000000 in
set_option maxRecDepth 100000 in
theorem tX9_narrowed (κ : KK) (l : Launch) (A : Nat → Prop) (B : Heap → Prop) (a1 : Int32) (a2 : Int64) (q : Int64) (h : fX9_narrowed a1 a2 = some q) : MM κ l yX9_narrowed cX9_narrowed 3 (some .long) rmX9_narrowed A [.int a1, .long a2] B (some (Value.long q)) B := by
  refine MM.of (by decide +kernel) (Nat.le_of_ble_eq_true rfl) ?_
  intro p e s m below meth c C hnm
  unfold fX9_narrowed at h
  refine G_sub (lv' := [(0, .int a1), (1, .long a2)]) [0, 1] rfl ?_
  refine G_iload_n (pc' := 1) C dX9_narrowed_0 0 rfl rfl ?_
  by_cases hc0 : a1 = (0 : Int32)
  · replace h := z_ip hc0 h
    refine G_tabIn (tgt := 28) C dX9_narrowed_1 (by rw [hc0]; decide) (by rw [hc0]; decide) (by rw [hc0]; rfl) (by decide) ?_
    refine G_lload_n (pc' := 29) C dX9_narrowed_28 1 rfl rfl ?_
    refine G_l2i (pc' := 30) C dX9_narrowed_29 rfl ?_
    refine G_i2b (pc' := 31) C dX9_narrowed_30 rfl ?_
    refine G_i2l (pc' := 32) C dX9_narrowed_31 rfl ?_
    obtain rfl := Option.some.inj h
    exact G_lret C dX9_narrowed_32 (fun _ h => h)
  replace h := z_in hc0 h
  by_cases hc1 : a1 = (1 : Int32)
  · replace h := z_ip hc1 h
    refine G_tabIn (tgt := 33) C dX9_narrowed_1 (by rw [hc1]; decide) (by rw [hc1]; decide) (by rw [hc1]; rfl) (by decide) ?_
    refine G_lload_n (pc' := 34) C dX9_narrowed_33 1 rfl rfl ?_
    refine G_l2i (pc' := 35) C dX9_narrowed_34 rfl ?_
    refine G_i2s (pc' := 36) C dX9_narrowed_35 rfl ?_
    refine G_i2l (pc' := 37) C dX9_narrowed_36 rfl ?_
    obtain rfl := Option.some.inj h
    exact G_lret C dX9_narrowed_37 (fun _ h => h)
  replace h := z_in hc1 h
  by_cases hc2 : a1 = (2 : Int32)
  · replace h := z_ip hc2 h
    refine G_tabIn (tgt := 38) C dX9_narrowed_1 (by rw [hc2]; decide) (by rw [hc2]; decide) (by rw [hc2]; rfl) (by decide) ?_
    refine G_lload_n (pc' := 39) C dX9_narrowed_38 1 rfl rfl ?_
    refine G_l2i (pc' := 40) C dX9_narrowed_39 rfl ?_
    refine G_i2l (pc' := 41) C dX9_narrowed_40 rfl ?_
    obtain rfl := Option.some.inj h
    exact G_lret C dX9_narrowed_41 (fun _ h => h)
  replace h := z_in hc2 h
  refine G_tabOut (tgt := 42) C dX9_narrowed_1 (z_out0_2 hc0 hc1 hc2) (by decide) ?_
  refine G_lload_n (pc' := 43) C dX9_narrowed_42 1 rfl rfl ?_
  obtain rfl := Option.some.inj h
  exact G_lret C dX9_narrowed_43 (fun _ h => h)
theorem dX9_write_0 : decode cX9_write 0 = .ok (.iload_n 1, 1) := by decide +kernel
theorem dX9_write_1 : decode cX9_write 1 = .ok (.invokestatic 96, 3) := by decide +kernel
theorem dX9_write_4 : decode cX9_write 4 = .ok (.ifCond .ne 6, 3) := by decide +kernel
theorem dX9_write_7 : decode cX9_write 7 = .ok (.bipush (-2), 2) := by decide +kernel
theorem dX9_write_9 : decode cX9_write 9 = .ok (.ireturn, 1) := by decide +kernel
theorem dX9_write_10 : decode cX9_write 10 = .ok (.aload_n 0, 1) := by decide +kernel
theorem dX9_write_11 : decode cX9_write 11 = .ok (.getfield 11, 3) := by decide +kernel
theorem dX9_write_14 : decode cX9_write 14 = .ok (.iload_n 1, 1) := by decide +kernel
theorem dX9_write_15 : decode cX9_write 15 = .ok (.aaload, 1) := by decide +kernel
theorem dX9_write_16 : decode cX9_write 16 = .ok (.astore 5, 2) := by decide +kernel
theorem dX9_write_18 : decode cX9_write 18 = .ok (.aload 5, 2) := by decide +kernel
theorem dX9_write_20 : decode cX9_write 20 = .ok (.ifnonnull 10, 3) := by decide +kernel
theorem dX9_write_23 : decode cX9_write 23 = .ok (.aload_n 0, 1) := by decide +kernel
theorem dX9_write_24 : decode cX9_write 24 = .ok (.bipush (-10), 2) := by decide +kernel
theorem dX9_write_26 : decode cX9_write 26 = .ok (.invokevirtual 103, 3) := by decide +kernel
theorem dX9_write_29 : decode cX9_write 29 = .ok (.ireturn, 1) := by decide +kernel
theorem dX9_write_30 : decode cX9_write 30 = .ok (.iload_n 2, 1) := by decide +kernel
theorem dX9_write_31 : decode cX9_write 31 = .ok (.ifCond .lt 13, 3) := by decide +kernel
theorem dX9_write_34 : decode cX9_write 34 = .ok (.iload_n 2, 1) := by decide +kernel
theorem dX9_write_35 : decode cX9_write 35 = .ok (.aload 5, 2) := by decide +kernel
theorem dX9_write_37 : decode cX9_write 37 = .ok (.getfield 110, 3) := by decide +kernel
theorem dX9_write_40 : decode cX9_write 40 = .ok (.arraylength, 1) := by decide +kernel
theorem dX9_write_41 : decode cX9_write 41 = .ok (.if_icmp .lt 10, 3) := by decide +kernel
theorem dX9_write_44 : decode cX9_write 44 = .ok (.aload_n 0, 1) := by decide +kernel
theorem dX9_write_45 : decode cX9_write 45 = .ok (.bipush (-11), 2) := by decide +kernel
theorem dX9_write_47 : decode cX9_write 47 = .ok (.invokevirtual 103, 3) := by decide +kernel
theorem dX9_write_50 : decode cX9_write 50 = .ok (.ireturn, 1) := by decide +kernel
theorem dX9_write_51 : decode cX9_write 51 = .ok (.aload 5, 2) := by decide +kernel
theorem dX9_write_53 : decode cX9_write 53 = .ok (.getfield 110, 3) := by decide +kernel
theorem dX9_write_56 : decode cX9_write 56 = .ok (.iload_n 2, 1) := by decide +kernel
theorem dX9_write_57 : decode cX9_write 57 = .ok (.aload 5, 2) := by decide +kernel
theorem dX9_write_59 : decode cX9_write 59 = .ok (.getfield 114, 3) := by decide +kernel
theorem dX9_write_62 : decode cX9_write 62 = .ok (.lload_n 3, 1) := by decide +kernel
theorem dX9_write_63 : decode cX9_write 63 = .ok (.invokestatic 117, 3) := by decide +kernel
theorem dX9_write_66 : decode cX9_write 66 = .ok (.lastore, 1) := by decide +kernel
theorem dX9_write_67 : decode cX9_write 67 = .ok (.aload 5, 2) := by decide +kernel
theorem dX9_write_69 : decode cX9_write 69 = .ok (.getfield 110, 3) := by decide +kernel
theorem dX9_write_72 : decode cX9_write 72 = .ok (.arraylength, 1) := by decide +kernel
theorem dX9_write_73 : decode cX9_write 73 = .ok (.ireturn, 1) := by decide +kernel
theorem yd_X9_write : yX9_write.cls = RX9 ∧ yX9_write.cls ≠ "java/lang/invoke/MethodHandle" ∧ yX9_write.cls ≠ "java/lang/invoke/VarHandle" ∧ (parseMethodDescriptor yX9_write.desc).map (fun d => d.parameters.length) = some 3 := by decide +kernel
abbrev rmX9_write : Room := { frames := 1, cells := 0, slots := 0, locals := 22 }
def fX9_write_J44 (o : Nat) (z : CS) : Option (Int32 × CS) :=
  (fX9_counted o z (-11 : Int32)).bind fun q5 =>
  some (q5.1, q5.2)
def fX9_write (o : Nat) (z : CS) (a1 : Int32) (a2 : Int32) (a3 : Int64) : Option (Int32 × CS) :=
  (fX9_isSheet a1).bind fun q1 =>
  if q1 = 0 then
    some ((-2 : Int32), z)
  else
    (aQ 6 (z.2.2.1 0) a1).bind fun v2 =>
    qc v2
      (
        (fX9_counted o z (-10 : Int32)).bind fun q4 =>
        some (q4.1, q4.2)
      )
      (fun ad3 =>
        if a2 < 0 then
          fX9_write_J44 o z
        else
          (dS z ad3).bind fun t6 =>
          (t6.2).bind fun ad7 =>
          (lnL z ad7).bind fun v8 =>
          if a2 < v8 then
            (dS z ad3).bind fun t9 =>
            (dS z ad3).bind fun t10 =>
            (fX9_narrowed t10.1 a3).bind fun q11 =>
            (t9.2).bind fun ad12 =>
            (stL o z ad12 a2 q11).bind fun z13 =>
            (dS z13 ad3).bind fun t14 =>
            (t14.2).bind fun ad15 =>
            (lnL z13 ad15).bind fun v16 =>
            some (v16, z13)
          else
            fX9_write_J44 o z
      )
set_option maxHeartbeats 4000000 in
set_option maxRecDepth 100000 in
theorem tX9_write (κ : KK) (l : Launch) (o : Nat) (z : CS) (a1 : Int32) (a2 : Int32) (a3 : Int64) (q : Int32 × CS) (h : fX9_write o z a1 a2 a3 = some q) : MM κ l yX9_write cX9_write 6 (some .int) rmX9_write (CA o) [.ref o, .int a1, .int a2, .long a3] (CB κ o z) (some (Value.int q.1)) (CB κ o q.2) := by
  refine MM.of (by decide +kernel) (Nat.le_of_ble_eq_true rfl) ?_
  intro p e s m below meth c C hnm
  have J44 : ∀ (z : CS), fX9_write_J44 o z = some q → GC κ p l e s m ([.ref o, .int a1, .int a2, .long a3] : List Value).toArray below meth c rmX9_write 6 o (some (Value.int q.1)) (CB κ o q.2) 0 0 z 44 [(0, .ref o)] [] := by
    intro z h
    unfold fX9_write_J44 at h
    refine G_aload_n (pc' := 45) C dX9_write_44 0 rfl rfl ?_
    refine G_bipush (pc' := 47) (v := (-11 : Int32)) C dX9_write_45 (by decide) rfl ?_
    replace h := ob h
    obtain ⟨q5, hq5, h⟩ := h
    refine G_cV0 (pc' := 50) C dX9_write_47 (tX9_counted κ l o z (-11 : Int32) q5 hq5) (wV tw_ml_X9_103 tw_im_X9_counted tw_se_X9_X9_counted tw_in_X9 tw_co_X9_counted) yd_X9_counted rfl fi_X9 (CB_rd 0 rfl) rfl rfl (by decide) rfl (Nat.le_of_ble_eq_true rfl) rfl rfl ?_
    refine G_widen (k := rmX9_write.cells) (n := rmX9_write.slots) (by decide) (by decide) ?_
    obtain rfl := Option.some.inj h
    exact G_iret C dX9_write_50 (fun _ h => h)
  unfold fX9_write at h
  refine G_sub (lv' := [(0, .ref o), (1, .int a1), (2, .int a2), (3, .long a3)]) [0, 1, 2, 3] rfl ?_
  refine G_iload_n (pc' := 1) C dX9_write_0 1 rfl rfl ?_
  replace h := ob h
  obtain ⟨q1, hq1, h⟩ := h
  refine G_cS0 (pc' := 4) C dX9_write_1 (tX9_isSheet κ l (CA o) (CB κ o z) a1 q1 hq1) (wS tw_ml_X9_96 tw_st_X9_isSheet tw_co_X9_isSheet tw_in_X9) yd_X9_isSheet rfl rfl rfl (by decide) rfl (Nat.le_of_ble_eq_true rfl) rfl rfl ?_
  refine G_if_ne (tgt := 10) (pc' := 7) C dX9_write_4 (by decide) rfl (fun hc => ?_) (fun hc => ?_)
  · replace h := z_in hc h
    refine G_aload_n (pc' := 11) C dX9_write_10 0 rfl rfl ?_
    refine G_get (pc' := 14) (k := 0) C fi_X9 dX9_write_11 tw_fl_X9_11 rfl (by decide) (CB_rd 0 rfl) rfl rfl ?_
    refine G_iload_n (pc' := 15) C dX9_write_14 1 rfl rfl ?_
    replace h := ob h
    obtain ⟨v2, hv2, h⟩ := h
    refine G_aald4V (pc' := 16) C dX9_write_15 (CB_rd 1 rfl) hv2 rfl ?_
    refine G_qstore (pc' := 18) C dX9_write_16 [(5, va_rf v2), (0, .ref o), (1, .int a1), (2, .int a2), (3, .long a3)] (by decide) rfl rfl ?_
    refine G_qload (pc' := 20) C dX9_write_18 0 rfl rfl ?_
    refine G_ifnonnull (tgt := 30) (pc' := 23) C dX9_write_20 (by decide) rfl (fun ad3 hc => ?_) (fun hc => ?_)
    · replace h := z_qs hc h
      subst hc
      refine G_iload_n (pc' := 31) C dX9_write_30 3 rfl rfl ?_
      refine G_if_lt (tgt := 44) (pc' := 34) C dX9_write_31 (by decide) rfl (fun hc => ?_) (fun hc => ?_)
      · replace h := z_ip hc h
        exact G_sub (lv' := [(0, .ref o)]) [1] rfl (J44 z h)
      · replace h := z_in hc h
        refine G_iload_n (pc' := 35) C dX9_write_34 3 rfl rfl ?_
        refine G_aload (pc' := 37) C dX9_write_35 0 rfl rfl ?_
        replace h := ob h
        obtain ⟨t6, ht6, h⟩ := h
        refine G_get (pc' := 40) (k := 1) C fi_X7 dX9_write_37 tw_fl_X9_110 rfl (by decide) (CB_S ht6) rfl rfl ?_
        replace h := ob h
        obtain ⟨ad7, had7, h⟩ := h
        rw [had7]
        replace h := ob h
        obtain ⟨v8, hv8, h⟩ := h
        refine P_lenL (pc' := 41) C dX9_write_40 hv8 rfl ?_
        refine G_icmp_lt (tgt := 51) (pc' := 44) C dX9_write_41 (by decide) rfl (fun hc => ?_) (fun hc => ?_)
        · replace h := z_ip hc h
          refine G_aload (pc' := 53) C dX9_write_51 0 rfl rfl ?_
          replace h := ob h
          obtain ⟨t9, ht9, h⟩ := h
          refine G_get (pc' := 56) (k := 1) C fi_X7 dX9_write_53 tw_fl_X9_110 rfl (by decide) (CB_S ht9) rfl rfl ?_
          refine G_iload_n (pc' := 57) C dX9_write_56 3 rfl rfl ?_
          refine G_aload (pc' := 59) C dX9_write_57 0 rfl rfl ?_
          replace h := ob h
          obtain ⟨t10, ht10, h⟩ := h
          refine G_get (pc' := 62) (k := 0) C fi_X7 dX9_write_59 tw_fl_X9_114 rfl (by decide) (CB_S ht10) rfl rfl ?_
          refine G_lload_n (pc' := 63) C dX9_write_62 4 rfl rfl ?_
          replace h := ob h
          obtain ⟨q11, hq11, h⟩ := h
          refine G_cS0 (pc' := 66) C dX9_write_63 (tX9_narrowed κ l (CA o) (CB κ o z) t10.1 a3 q11 hq11) (wS tw_ml_X9_117 tw_st_X9_narrowed tw_co_X9_narrowed tw_in_X9) yd_X9_narrowed rfl rfl rfl (by decide) rfl (cat_le (Nat.le_of_ble_eq_true rfl)) rfl rfl ?_
          replace h := ob h
          obtain ⟨ad12, had12, h⟩ := h
          rw [had12]
          replace h := ob h
          obtain ⟨z13, hz13, h⟩ := h
          refine P_last (pc' := 67) C dX9_write_66 hz13 rfl ?_
          refine G_aload (pc' := 69) C dX9_write_67 0 rfl rfl ?_
          replace h := ob h
          obtain ⟨t14, ht14, h⟩ := h
          refine G_get (pc' := 72) (k := 1) C fi_X7 dX9_write_69 tw_fl_X9_110 rfl (by decide) (CB_S ht14) rfl rfl ?_
          replace h := ob h
          obtain ⟨ad15, had15, h⟩ := h
          rw [had15]
          replace h := ob h
          obtain ⟨v16, hv16, h⟩ := h
          refine P_lenL (pc' := 73) C dX9_write_72 hv16 rfl ?_
          refine G_widen (k := rmX9_write.cells) (n := rmX9_write.slots) (by decide) (by decide) ?_
          obtain rfl := Option.some.inj h
          exact G_iret C dX9_write_73 (fun _ h => h)
        · replace h := z_in hc h
          exact G_sub (lv' := [(0, .ref o)]) [1] rfl (J44 z h)
    · replace h := z_qn hc h
      refine G_aload_n (pc' := 24) C dX9_write_23 1 rfl rfl ?_
      refine G_bipush (pc' := 26) (v := (-10 : Int32)) C dX9_write_24 (by decide) rfl ?_
      replace h := ob h
      obtain ⟨q4, hq4, h⟩ := h
      refine G_cV0 (pc' := 29) C dX9_write_26 (tX9_counted κ l o z (-10 : Int32) q4 hq4) (wV tw_ml_X9_103 tw_im_X9_counted tw_se_X9_X9_counted tw_in_X9 tw_co_X9_counted) yd_X9_counted rfl fi_X9 (CB_rd 0 rfl) rfl rfl (by decide) rfl (Nat.le_of_ble_eq_true rfl) rfl rfl ?_
      refine G_widen (k := rmX9_write.cells) (n := rmX9_write.slots) (by decide) (by decide) ?_
      obtain rfl := Option.some.inj h
      exact G_iret C dX9_write_29 (fun _ h => h)
  · replace h := z_ip hc h
    refine G_bipush (pc' := 9) (v := (-2 : Int32)) C dX9_write_7 (by decide) rfl ?_
    refine G_widen (k := rmX9_write.cells) (n := rmX9_write.slots) (by decide) (by decide) ?_
    obtain rfl := Option.some.inj h
    exact G_iret C dX9_write_9 (fun _ h => h)
theorem dX9_look_0 : decode cX9_look 0 = .ok (.iload_n 1, 1) := by decide +kernel
theorem dX9_look_1 : decode cX9_look 1 = .ok (.invokestatic 96, 3) := by decide +kernel
theorem dX9_look_4 : decode cX9_look 4 = .ok (.ifCond .eq 10, 3) := by decide +kernel
theorem dX9_look_7 : decode cX9_look 7 = .ok (.iload_n 2, 1) := by decide +kernel
theorem dX9_look_8 : decode cX9_look 8 = .ok (.invokestatic 100, 3) := by decide +kernel
theorem dX9_look_11 : decode cX9_look 11 = .ok (.ifCond .ne 6, 3) := by decide +kernel
theorem dX9_look_14 : decode cX9_look 14 = .ok (.bipush (-2), 2) := by decide +kernel
theorem dX9_look_16 : decode cX9_look 16 = .ok (.ireturn, 1) := by decide +kernel
theorem dX9_look_17 : decode cX9_look 17 = .ok (.aload_n 0, 1) := by decide +kernel
theorem dX9_look_18 : decode cX9_look 18 = .ok (.getfield 11, 3) := by decide +kernel
theorem dX9_look_21 : decode cX9_look 21 = .ok (.iload_n 1, 1) := by decide +kernel
theorem dX9_look_22 : decode cX9_look 22 = .ok (.aaload, 1) := by decide +kernel
theorem dX9_look_23 : decode cX9_look 23 = .ok (.astore 4, 2) := by decide +kernel
theorem dX9_look_25 : decode cX9_look 25 = .ok (.aload 4, 2) := by decide +kernel
theorem dX9_look_27 : decode cX9_look 27 = .ok (.ifnonnull 10, 3) := by decide +kernel
theorem dX9_look_30 : decode cX9_look 30 = .ok (.aload_n 0, 1) := by decide +kernel
theorem dX9_look_31 : decode cX9_look 31 = .ok (.bipush (-10), 2) := by decide +kernel
theorem dX9_look_33 : decode cX9_look 33 = .ok (.invokevirtual 103, 3) := by decide +kernel
theorem dX9_look_36 : decode cX9_look 36 = .ok (.ireturn, 1) := by decide +kernel
theorem dX9_look_37 : decode cX9_look 37 = .ok (.aload 4, 2) := by decide +kernel
theorem dX9_look_39 : decode cX9_look 39 = .ok (.getfield 114, 3) := by decide +kernel
theorem dX9_look_42 : decode cX9_look 42 = .ok (.iload_n 2, 1) := by decide +kernel
theorem dX9_look_43 : decode cX9_look 43 = .ok (.if_icmp .eq 10, 3) := by decide +kernel
theorem dX9_look_46 : decode cX9_look 46 = .ok (.aload_n 0, 1) := by decide +kernel
theorem dX9_look_47 : decode cX9_look 47 = .ok (.bipush (-12), 2) := by decide +kernel
theorem dX9_look_49 : decode cX9_look 49 = .ok (.invokevirtual 103, 3) := by decide +kernel
theorem dX9_look_52 : decode cX9_look 52 = .ok (.ireturn, 1) := by decide +kernel
theorem dX9_look_53 : decode cX9_look 53 = .ok (.iload_n 3, 1) := by decide +kernel
theorem dX9_look_54 : decode cX9_look 54 = .ok (.ifCond .lt 13, 3) := by decide +kernel
theorem dX9_look_57 : decode cX9_look 57 = .ok (.iload_n 3, 1) := by decide +kernel
theorem dX9_look_58 : decode cX9_look 58 = .ok (.aload 4, 2) := by decide +kernel
theorem dX9_look_60 : decode cX9_look 60 = .ok (.getfield 110, 3) := by decide +kernel
theorem dX9_look_63 : decode cX9_look 63 = .ok (.arraylength, 1) := by decide +kernel
theorem dX9_look_64 : decode cX9_look 64 = .ok (.if_icmp .lt 10, 3) := by decide +kernel
theorem dX9_look_67 : decode cX9_look 67 = .ok (.aload_n 0, 1) := by decide +kernel
theorem dX9_look_68 : decode cX9_look 68 = .ok (.bipush (-11), 2) := by decide +kernel
theorem dX9_look_70 : decode cX9_look 70 = .ok (.invokevirtual 103, 3) := by decide +kernel
theorem dX9_look_73 : decode cX9_look 73 = .ok (.ireturn, 1) := by decide +kernel
theorem dX9_look_74 : decode cX9_look 74 = .ok (.aload 4, 2) := by decide +kernel
theorem dX9_look_76 : decode cX9_look 76 = .ok (.getfield 110, 3) := by decide +kernel
theorem dX9_look_79 : decode cX9_look 79 = .ok (.iload_n 3, 1) := by decide +kernel
theorem dX9_look_80 : decode cX9_look 80 = .ok (.laload, 1) := by decide +kernel
theorem dX9_look_81 : decode cX9_look 81 = .ok (.lstore 5, 2) := by decide +kernel
theorem dX9_look_83 : decode cX9_look 83 = .ok (.lload 5, 2) := by decide +kernel
theorem dX9_look_85 : decode cX9_look 85 = .ok (.lconst 0, 1) := by decide +kernel
theorem dX9_look_86 : decode cX9_look 86 = .ok (.lcmp, 1) := by decide +kernel
theorem dX9_look_87 : decode cX9_look 87 = .ok (.ifCond .le 7, 3) := by decide +kernel
theorem dX9_look_90 : decode cX9_look 90 = .ok (.iconst 1, 1) := by decide +kernel
theorem dX9_look_91 : decode cX9_look 91 = .ok (.goto 15, 3) := by decide +kernel
theorem dX9_look_94 : decode cX9_look 94 = .ok (.lload 5, 2) := by decide +kernel
theorem dX9_look_96 : decode cX9_look 96 = .ok (.lconst 0, 1) := by decide +kernel
theorem dX9_look_97 : decode cX9_look 97 = .ok (.lcmp, 1) := by decide +kernel
theorem dX9_look_98 : decode cX9_look 98 = .ok (.ifCond .ne 7, 3) := by decide +kernel
theorem dX9_look_101 : decode cX9_look 101 = .ok (.iconst 2, 1) := by decide +kernel
theorem dX9_look_102 : decode cX9_look 102 = .ok (.goto 4, 3) := by decide +kernel
theorem dX9_look_105 : decode cX9_look 105 = .ok (.iconst 3, 1) := by decide +kernel
theorem dX9_look_106 : decode cX9_look 106 = .ok (.ireturn, 1) := by decide +kernel
theorem yd_X9_look : yX9_look.cls = RX9 ∧ yX9_look.cls ≠ "java/lang/invoke/MethodHandle" ∧ yX9_look.cls ≠ "java/lang/invoke/VarHandle" ∧ (parseMethodDescriptor yX9_look.desc).map (fun d => d.parameters.length) = some 3 := by decide +kernel
abbrev rmX9_look : Room := { frames := 1, cells := 0, slots := 0, locals := 21 }
def fX9_look_J67 (o : Nat) (z : CS) : Option (Int32 × CS) :=
  (fX9_counted o z (-11 : Int32)).bind fun q7 =>
  some (q7.1, q7.2)
def fX9_look_J14 (o : Nat) (z : CS) : Option (Int32 × CS) :=
  some ((-2 : Int32), z)
def fX9_look (o : Nat) (z : CS) (a1 : Int32) (a2 : Int32) (a3 : Int32) : Option (Int32 × CS) :=
  (fX9_isSheet a1).bind fun q1 =>
  if q1 = 0 then
    fX9_look_J14 o z
  else
    (fX9_isSort a2).bind fun q2 =>
    if q2 = 0 then
      fX9_look_J14 o z
    else
      (aQ 6 (z.2.2.1 0) a1).bind fun v3 =>
      qc v3
        (
          (fX9_counted o z (-10 : Int32)).bind fun q5 =>
          some (q5.1, q5.2)
        )
        (fun ad4 =>
          (dS z ad4).bind fun t6 =>
          if t6.1 = a2 then
            if a3 < 0 then
              fX9_look_J67 o z
            else
              (dS z ad4).bind fun t8 =>
              (t8.2).bind fun ad9 =>
              (lnL z ad9).bind fun v10 =>
              if a3 < v10 then
                (dS z ad4).bind fun t11 =>
                (t11.2).bind fun ad12 =>
                (rdL z ad12 a3).bind fun v13 =>
                if (lg_cmp v13 (0 : Int64)) ≤ 0 then
                  if (lg_cmp v13 (0 : Int64)) = 0 then
                    some ((2 : Int32), z)
                  else
                    some ((3 : Int32), z)
                else
                  some ((1 : Int32), z)
              else
                fX9_look_J67 o z
          else
            (fX9_counted o z (-12 : Int32)).bind fun q14 =>
            some (q14.1, q14.2)
        )
set_option maxHeartbeats 4000000 in
set_option maxRecDepth 100000 in
theorem tX9_look (κ : KK) (l : Launch) (o : Nat) (z : CS) (a1 : Int32) (a2 : Int32) (a3 : Int32) (q : Int32 × CS) (h : fX9_look o z a1 a2 a3 = some q) : MM κ l yX9_look cX9_look 7 (some .int) rmX9_look (CA o) [.ref o, .int a1, .int a2, .int a3] (CB κ o z) (some (Value.int q.1)) (CB κ o q.2) := by
  refine MM.of (by decide +kernel) (Nat.le_of_ble_eq_true rfl) ?_
  intro p e s m below meth c C hnm
  have J67 : ∀ (z : CS), fX9_look_J67 o z = some q → GC κ p l e s m ([.ref o, .int a1, .int a2, .int a3] : List Value).toArray below meth c rmX9_look 7 o (some (Value.int q.1)) (CB κ o q.2) 0 0 z 67 [(0, .ref o)] [] := by
    intro z h
    unfold fX9_look_J67 at h
    refine G_aload_n (pc' := 68) C dX9_look_67 0 rfl rfl ?_
    refine G_bipush (pc' := 70) (v := (-11 : Int32)) C dX9_look_68 (by decide) rfl ?_
    replace h := ob h
    obtain ⟨q7, hq7, h⟩ := h
    refine G_cV0 (pc' := 73) C dX9_look_70 (tX9_counted κ l o z (-11 : Int32) q7 hq7) (wV tw_ml_X9_103 tw_im_X9_counted tw_se_X9_X9_counted tw_in_X9 tw_co_X9_counted) yd_X9_counted rfl fi_X9 (CB_rd 0 rfl) rfl rfl (by decide) rfl (Nat.le_of_ble_eq_true rfl) rfl rfl ?_
    refine G_widen (k := rmX9_look.cells) (n := rmX9_look.slots) (by decide) (by decide) ?_
    obtain rfl := Option.some.inj h
    exact G_iret C dX9_look_73 (fun _ h => h)
  have J14 : ∀ (z : CS), fX9_look_J14 o z = some q → GC κ p l e s m ([.ref o, .int a1, .int a2, .int a3] : List Value).toArray below meth c rmX9_look 7 o (some (Value.int q.1)) (CB κ o q.2) 0 0 z 14 [] [] := by
    intro z h
    unfold fX9_look_J14 at h
    refine G_bipush (pc' := 16) (v := (-2 : Int32)) C dX9_look_14 (by decide) rfl ?_
    refine G_widen (k := rmX9_look.cells) (n := rmX9_look.slots) (by decide) (by decide) ?_
    obtain rfl := Option.some.inj h
    exact G_iret C dX9_look_16 (fun _ h => h)
  unfold fX9_look at h
  refine G_sub (lv' := [(0, .ref o), (1, .int a1), (2, .int a2), (3, .int a3)]) [0, 1, 2, 3] rfl ?_
  refine G_iload_n (pc' := 1) C dX9_look_0 1 rfl rfl ?_
  replace h := ob h
  obtain ⟨q1, hq1, h⟩ := h
  refine G_cS0 (pc' := 4) C dX9_look_1 (tX9_isSheet κ l (CA o) (CB κ o z) a1 q1 hq1) (wS tw_ml_X9_96 tw_st_X9_isSheet tw_co_X9_isSheet tw_in_X9) yd_X9_isSheet rfl rfl rfl (by decide) rfl (Nat.le_of_ble_eq_true rfl) rfl rfl ?_
  refine G_if_eq (tgt := 14) (pc' := 7) C dX9_look_4 (by decide) rfl (fun hc => ?_) (fun hc => ?_)
  · replace h := z_ip hc h
    exact G_sub (lv' := []) [] rfl (J14 z h)
  · replace h := z_in hc h
    refine G_iload_n (pc' := 8) C dX9_look_7 2 rfl rfl ?_
    replace h := ob h
    obtain ⟨q2, hq2, h⟩ := h
    refine G_cS0 (pc' := 11) C dX9_look_8 (tX9_isSort κ l (CA o) (CB κ o z) a2 q2 hq2) (wS tw_ml_X9_100 tw_st_X9_isSort tw_co_X9_isSort tw_in_X9) yd_X9_isSort rfl rfl rfl (by decide) rfl (Nat.le_of_ble_eq_true rfl) rfl rfl ?_
    refine G_if_ne (tgt := 17) (pc' := 14) C dX9_look_11 (by decide) rfl (fun hc => ?_) (fun hc => ?_)
    · replace h := z_in hc h
      refine G_aload_n (pc' := 18) C dX9_look_17 0 rfl rfl ?_
      refine G_get (pc' := 21) (k := 0) C fi_X9 dX9_look_18 tw_fl_X9_11 rfl (by decide) (CB_rd 0 rfl) rfl rfl ?_
      refine G_iload_n (pc' := 22) C dX9_look_21 1 rfl rfl ?_
      replace h := ob h
      obtain ⟨v3, hv3, h⟩ := h
      refine G_aald4V (pc' := 23) C dX9_look_22 (CB_rd 1 rfl) hv3 rfl ?_
      refine G_qstore (pc' := 25) C dX9_look_23 [(4, va_rf v3), (0, .ref o), (1, .int a1), (2, .int a2), (3, .int a3)] (by decide) rfl rfl ?_
      refine G_qload (pc' := 27) C dX9_look_25 0 rfl rfl ?_
      refine G_ifnonnull (tgt := 37) (pc' := 30) C dX9_look_27 (by decide) rfl (fun ad4 hc => ?_) (fun hc => ?_)
      · replace h := z_qs hc h
        subst hc
        refine G_aload (pc' := 39) C dX9_look_37 0 rfl rfl ?_
        replace h := ob h
        obtain ⟨t6, ht6, h⟩ := h
        refine G_get (pc' := 42) (k := 0) C fi_X7 dX9_look_39 tw_fl_X9_114 rfl (by decide) (CB_S ht6) rfl rfl ?_
        refine G_iload_n (pc' := 43) C dX9_look_42 3 rfl rfl ?_
        refine G_icmp_eq (tgt := 53) (pc' := 46) C dX9_look_43 (by decide) rfl (fun hc => ?_) (fun hc => ?_)
        · replace h := z_ip hc h
          refine G_iload_n (pc' := 54) C dX9_look_53 4 rfl rfl ?_
          refine G_if_lt (tgt := 67) (pc' := 57) C dX9_look_54 (by decide) rfl (fun hc => ?_) (fun hc => ?_)
          · replace h := z_ip hc h
            exact G_sub (lv' := [(0, .ref o)]) [1] rfl (J67 z h)
          · replace h := z_in hc h
            refine G_iload_n (pc' := 58) C dX9_look_57 4 rfl rfl ?_
            refine G_aload (pc' := 60) C dX9_look_58 0 rfl rfl ?_
            replace h := ob h
            obtain ⟨t8, ht8, h⟩ := h
            refine G_get (pc' := 63) (k := 1) C fi_X7 dX9_look_60 tw_fl_X9_110 rfl (by decide) (CB_S ht8) rfl rfl ?_
            replace h := ob h
            obtain ⟨ad9, had9, h⟩ := h
            rw [had9]
            replace h := ob h
            obtain ⟨v10, hv10, h⟩ := h
            refine P_lenL (pc' := 64) C dX9_look_63 hv10 rfl ?_
            refine G_icmp_lt (tgt := 74) (pc' := 67) C dX9_look_64 (by decide) rfl (fun hc => ?_) (fun hc => ?_)
            · replace h := z_ip hc h
              refine G_aload (pc' := 76) C dX9_look_74 0 rfl rfl ?_
              replace h := ob h
              obtain ⟨t11, ht11, h⟩ := h
              refine G_get (pc' := 79) (k := 1) C fi_X7 dX9_look_76 tw_fl_X9_110 rfl (by decide) (CB_S ht11) rfl rfl ?_
              refine G_iload_n (pc' := 80) C dX9_look_79 4 rfl rfl ?_
              replace h := ob h
              obtain ⟨ad12, had12, h⟩ := h
              rw [had12]
              replace h := ob h
              obtain ⟨v13, hv13, h⟩ := h
              refine P_lald (pc' := 81) C dX9_look_80 hv13 rfl ?_
              refine G_lstore (pc' := 83) C dX9_look_81 [(5, .long v13), (4, .ref ad4), (0, .ref o), (1, .int a1), (2, .int a2), (3, .int a3)] (by decide) rfl rfl ?_
              refine G_lload (pc' := 85) C dX9_look_83 0 rfl rfl ?_
              refine G_lconst (pc' := 86) (v := (0 : Int64)) C dX9_look_85 (by decide) rfl ?_
              refine G_lcmp (pc' := 87) C dX9_look_86 rfl ?_
              refine G_if_le (tgt := 94) (pc' := 90) C dX9_look_87 (by decide) rfl (fun hc => ?_) (fun hc => ?_)
              · replace h := z_ip hc h
                refine G_lload (pc' := 96) C dX9_look_94 0 rfl rfl ?_
                refine G_lconst (pc' := 97) (v := (0 : Int64)) C dX9_look_96 (by decide) rfl ?_
                refine G_lcmp (pc' := 98) C dX9_look_97 rfl ?_
                refine G_if_ne (tgt := 105) (pc' := 101) C dX9_look_98 (by decide) rfl (fun hc => ?_) (fun hc => ?_)
                · replace h := z_in hc h
                  refine G_iconst (pc' := 106) (v := (3 : Int32)) C dX9_look_105 (by decide) rfl ?_
                  refine G_widen (k := rmX9_look.cells) (n := rmX9_look.slots) (by decide) (by decide) ?_
                  obtain rfl := Option.some.inj h
                  exact G_iret C dX9_look_106 (fun _ h => h)
                · replace h := z_ip hc h
                  refine G_iconst (pc' := 102) (v := (2 : Int32)) C dX9_look_101 (by decide) rfl ?_
                  refine G_goto (tgt := 106) C dX9_look_102 (by decide) ?_
                  refine G_widen (k := rmX9_look.cells) (n := rmX9_look.slots) (by decide) (by decide) ?_
                  obtain rfl := Option.some.inj h
                  exact G_iret C dX9_look_106 (fun _ h => h)
              · replace h := z_in hc h
                refine G_iconst (pc' := 91) (v := (1 : Int32)) C dX9_look_90 (by decide) rfl ?_
                refine G_goto (tgt := 106) C dX9_look_91 (by decide) ?_
                refine G_widen (k := rmX9_look.cells) (n := rmX9_look.slots) (by decide) (by decide) ?_
                obtain rfl := Option.some.inj h
                exact G_iret C dX9_look_106 (fun _ h => h)
            · replace h := z_in hc h
              exact G_sub (lv' := [(0, .ref o)]) [1] rfl (J67 z h)
        · replace h := z_in hc h
          refine G_aload_n (pc' := 47) C dX9_look_46 1 rfl rfl ?_
          refine G_bipush (pc' := 49) (v := (-12 : Int32)) C dX9_look_47 (by decide) rfl ?_
          replace h := ob h
          obtain ⟨q14, hq14, h⟩ := h
          refine G_cV0 (pc' := 52) C dX9_look_49 (tX9_counted κ l o z (-12 : Int32) q14 hq14) (wV tw_ml_X9_103 tw_im_X9_counted tw_se_X9_X9_counted tw_in_X9 tw_co_X9_counted) yd_X9_counted rfl fi_X9 (CB_rd 0 rfl) rfl rfl (by decide) rfl (Nat.le_of_ble_eq_true rfl) rfl rfl ?_
          refine G_widen (k := rmX9_look.cells) (n := rmX9_look.slots) (by decide) (by decide) ?_
          obtain rfl := Option.some.inj h
          exact G_iret C dX9_look_52 (fun _ h => h)
      · replace h := z_qn hc h
        refine G_aload_n (pc' := 31) C dX9_look_30 1 rfl rfl ?_
        refine G_bipush (pc' := 33) (v := (-10 : Int32)) C dX9_look_31 (by decide) rfl ?_
        replace h := ob h
        obtain ⟨q5, hq5, h⟩ := h
        refine G_cV0 (pc' := 36) C dX9_look_33 (tX9_counted κ l o z (-10 : Int32) q5 hq5) (wV tw_ml_X9_103 tw_im_X9_counted tw_se_X9_X9_counted tw_in_X9 tw_co_X9_counted) yd_X9_counted rfl fi_X9 (CB_rd 0 rfl) rfl rfl (by decide) rfl (Nat.le_of_ble_eq_true rfl) rfl rfl ?_
        refine G_widen (k := rmX9_look.cells) (n := rmX9_look.slots) (by decide) (by decide) ?_
        obtain rfl := Option.some.inj h
        exact G_iret C dX9_look_36 (fun _ h => h)
    · replace h := z_ip hc h
      exact G_sub (lv' := []) [] rfl (J14 z h)
theorem dX9_hasRoom_0 : decode cX9_hasRoom 0 = .ok (.iload_n 1, 1) := by decide +kernel
theorem dX9_hasRoom_1 : decode cX9_hasRoom 1 = .ok (.ifCond .lt 31, 3) := by decide +kernel
theorem dX9_hasRoom_4 : decode cX9_hasRoom 4 = .ok (.iload_n 2, 1) := by decide +kernel
theorem dX9_hasRoom_5 : decode cX9_hasRoom 5 = .ok (.ifCond .lt 27, 3) := by decide +kernel
theorem dX9_hasRoom_8 : decode cX9_hasRoom 8 = .ok (.iload_n 2, 1) := by decide +kernel
theorem dX9_hasRoom_9 : decode cX9_hasRoom 9 = .ok (.aload_n 0, 1) := by decide +kernel
theorem dX9_hasRoom_10 : decode cX9_hasRoom 10 = .ok (.getfield 110, 3) := by decide +kernel
theorem dX9_hasRoom_13 : decode cX9_hasRoom 13 = .ok (.arraylength, 1) := by decide +kernel
theorem dX9_hasRoom_14 : decode cX9_hasRoom 14 = .ok (.if_icmp .gt 18, 3) := by decide +kernel
theorem dX9_hasRoom_17 : decode cX9_hasRoom 17 = .ok (.iload_n 1, 1) := by decide +kernel
theorem dX9_hasRoom_18 : decode cX9_hasRoom 18 = .ok (.aload_n 0, 1) := by decide +kernel
theorem dX9_hasRoom_19 : decode cX9_hasRoom 19 = .ok (.getfield 110, 3) := by decide +kernel
theorem dX9_hasRoom_22 : decode cX9_hasRoom 22 = .ok (.arraylength, 1) := by decide +kernel
theorem dX9_hasRoom_23 : decode cX9_hasRoom 23 = .ok (.iload_n 2, 1) := by decide +kernel
theorem dX9_hasRoom_24 : decode cX9_hasRoom 24 = .ok (.isub, 1) := by decide +kernel
theorem dX9_hasRoom_25 : decode cX9_hasRoom 25 = .ok (.if_icmp .gt 7, 3) := by decide +kernel
theorem dX9_hasRoom_28 : decode cX9_hasRoom 28 = .ok (.iconst 1, 1) := by decide +kernel
theorem dX9_hasRoom_29 : decode cX9_hasRoom 29 = .ok (.goto 4, 3) := by decide +kernel
theorem dX9_hasRoom_32 : decode cX9_hasRoom 32 = .ok (.iconst 0, 1) := by decide +kernel
theorem dX9_hasRoom_33 : decode cX9_hasRoom 33 = .ok (.ireturn, 1) := by decide +kernel
theorem yd_X9_hasRoom : yX9_hasRoom.cls ≠ "java/lang/invoke/MethodHandle" ∧ yX9_hasRoom.cls ≠ "java/lang/invoke/VarHandle" ∧ (parseMethodDescriptor yX9_hasRoom.desc).map (fun d => d.parameters.length) = some 3 := by decide +kernel
abbrev rmX9_hasRoom : Room := { frames := 0, cells := 0, slots := 0, locals := 0 }
def fX9_hasRoom_J32 (o : Nat) (z : CS) : Option (Int32) :=
  some (0 : Int32)
def fX9_hasRoom (o : Nat) (z : CS) (a1 : Nat) (a2 : Int32) (a3 : Int32) : Option (Int32) :=
  if a2 < 0 then
    fX9_hasRoom_J32 o z
  else
    if a3 < 0 then
      fX9_hasRoom_J32 o z
    else
      (dS z a1).bind fun t1 =>
      (t1.2).bind fun ad2 =>
      (lnL z ad2).bind fun v3 =>
      if v3 < a3 then
        fX9_hasRoom_J32 o z
      else
        (dS z a1).bind fun t4 =>
        (t4.2).bind fun ad5 =>
        (lnL z ad5).bind fun v6 =>
        if (v6 - a3) < a2 then
          fX9_hasRoom_J32 o z
        else
          some (1 : Int32)
set_option maxHeartbeats 4000000 in
set_option maxRecDepth 100000 in
theorem tX9_hasRoom (κ : KK) (l : Launch) (o : Nat) (z : CS) (a1 : Nat) (a2 : Int32) (a3 : Int32) (q : Int32) (h : fX9_hasRoom o z a1 a2 a3 = some q) : MM κ l yX9_hasRoom cX9_hasRoom 3 (some .boolean) rmX9_hasRoom (CA o) [.ref a1, .int a2, .int a3] (CB κ o z) (some (Value.int q)) (CB κ o z) := by
  refine MM.of (by decide +kernel) (Nat.le_of_ble_eq_true rfl) ?_
  intro p e s m below meth c C hnm
  have J32 : fX9_hasRoom_J32 o z = some q → GC κ p l e s m ([.ref a1, .int a2, .int a3] : List Value).toArray below meth c rmX9_hasRoom 3 o (some (Value.int q)) (CB κ o z) 0 0 z 32 [] [] := by
    intro  h
    unfold fX9_hasRoom_J32 at h
    refine G_iconst (pc' := 33) (v := (0 : Int32)) C dX9_hasRoom_32 (by decide) rfl ?_
    obtain rfl := Option.some.inj h
    exact G_zret (v := (0 : Int32)) C rfl dX9_hasRoom_33 (fun _ h => h)
  unfold fX9_hasRoom at h
  refine G_sub (lv' := [(0, .ref a1), (1, .int a2), (2, .int a3)]) [0, 1, 2] rfl ?_
  refine G_iload_n (pc' := 1) C dX9_hasRoom_0 1 rfl rfl ?_
  refine G_if_lt (tgt := 32) (pc' := 4) C dX9_hasRoom_1 (by decide) rfl (fun hc => ?_) (fun hc => ?_)
  · replace h := z_ip hc h
    exact G_sub (lv' := []) [] rfl (J32  h)
  · replace h := z_in hc h
    refine G_iload_n (pc' := 5) C dX9_hasRoom_4 2 rfl rfl ?_
    refine G_if_lt (tgt := 32) (pc' := 8) C dX9_hasRoom_5 (by decide) rfl (fun hc => ?_) (fun hc => ?_)
    · replace h := z_ip hc h
      exact G_sub (lv' := []) [] rfl (J32  h)
    · replace h := z_in hc h
      refine G_iload_n (pc' := 9) C dX9_hasRoom_8 2 rfl rfl ?_
      refine G_aload_n (pc' := 10) C dX9_hasRoom_9 0 rfl rfl ?_
      replace h := ob h
      obtain ⟨t1, ht1, h⟩ := h
      refine G_get (pc' := 13) (k := 1) C fi_X7 dX9_hasRoom_10 tw_fl_X9_110 rfl (by decide) (CB_S ht1) rfl rfl ?_
      replace h := ob h
      obtain ⟨ad2, had2, h⟩ := h
      rw [had2]
      replace h := ob h
      obtain ⟨v3, hv3, h⟩ := h
      refine P_lenL (pc' := 14) C dX9_hasRoom_13 hv3 rfl ?_
      refine G_icmp_gt (tgt := 32) (pc' := 17) C dX9_hasRoom_14 (by decide) rfl (fun hc => ?_) (fun hc => ?_)
      · replace h := z_ip hc h
        exact G_sub (lv' := []) [] rfl (J32  h)
      · replace h := z_in hc h
        refine G_iload_n (pc' := 18) C dX9_hasRoom_17 1 rfl rfl ?_
        refine G_aload_n (pc' := 19) C dX9_hasRoom_18 0 rfl rfl ?_
        replace h := ob h
        obtain ⟨t4, ht4, h⟩ := h
        refine G_get (pc' := 22) (k := 1) C fi_X7 dX9_hasRoom_19 tw_fl_X9_110 rfl (by decide) (CB_S ht4) rfl rfl ?_
        replace h := ob h
        obtain ⟨ad5, had5, h⟩ := h
        rw [had5]
        replace h := ob h
        obtain ⟨v6, hv6, h⟩ := h
        refine P_lenL (pc' := 23) C dX9_hasRoom_22 hv6 rfl ?_
        refine G_iload_n (pc' := 24) C dX9_hasRoom_23 2 rfl rfl ?_
        refine G_isub (pc' := 25) C dX9_hasRoom_24 rfl ?_
        refine G_icmp_gt (tgt := 32) (pc' := 28) C dX9_hasRoom_25 (by decide) rfl (fun hc => ?_) (fun hc => ?_)
        · replace h := z_ip hc h
          exact G_sub (lv' := []) [] rfl (J32  h)
        · replace h := z_in hc h
          refine G_iconst (pc' := 29) (v := (1 : Int32)) C dX9_hasRoom_28 (by decide) rfl ?_
          refine G_goto (tgt := 33) C dX9_hasRoom_29 (by decide) ?_
          obtain rfl := Option.some.inj h
          exact G_zret (v := (1 : Int32)) C rfl dX9_hasRoom_33 (fun _ h => h)
theorem dX9_copy_0 : decode cX9_copy 0 = .ok (.iload_n 1, 1) := by decide +kernel
theorem dX9_copy_1 : decode cX9_copy 1 = .ok (.invokestatic 96, 3) := by decide +kernel
theorem dX9_copy_4 : decode cX9_copy 4 = .ok (.ifCond .eq 10, 3) := by decide +kernel
theorem dX9_copy_7 : decode cX9_copy 7 = .ok (.iload_n 3, 1) := by decide +kernel
theorem dX9_copy_8 : decode cX9_copy 8 = .ok (.invokestatic 96, 3) := by decide +kernel
theorem dX9_copy_11 : decode cX9_copy 11 = .ok (.ifCond .ne 6, 3) := by decide +kernel
theorem dX9_copy_14 : decode cX9_copy 14 = .ok (.bipush (-2), 2) := by decide +kernel
theorem dX9_copy_16 : decode cX9_copy 16 = .ok (.ireturn, 1) := by decide +kernel
theorem dX9_copy_17 : decode cX9_copy 17 = .ok (.aload_n 0, 1) := by decide +kernel
theorem dX9_copy_18 : decode cX9_copy 18 = .ok (.getfield 11, 3) := by decide +kernel
theorem dX9_copy_21 : decode cX9_copy 21 = .ok (.iload_n 1, 1) := by decide +kernel
theorem dX9_copy_22 : decode cX9_copy 22 = .ok (.aaload, 1) := by decide +kernel
theorem dX9_copy_23 : decode cX9_copy 23 = .ok (.astore 6, 2) := by decide +kernel
theorem dX9_copy_25 : decode cX9_copy 25 = .ok (.aload_n 0, 1) := by decide +kernel
theorem dX9_copy_26 : decode cX9_copy 26 = .ok (.getfield 11, 3) := by decide +kernel
theorem dX9_copy_29 : decode cX9_copy 29 = .ok (.iload_n 3, 1) := by decide +kernel
theorem dX9_copy_30 : decode cX9_copy 30 = .ok (.aaload, 1) := by decide +kernel
theorem dX9_copy_31 : decode cX9_copy 31 = .ok (.astore 7, 2) := by decide +kernel
theorem dX9_copy_33 : decode cX9_copy 33 = .ok (.aload 6, 2) := by decide +kernel
theorem dX9_copy_35 : decode cX9_copy 35 = .ok (.ifnull 8, 3) := by decide +kernel
theorem dX9_copy_38 : decode cX9_copy 38 = .ok (.aload 7, 2) := by decide +kernel
theorem dX9_copy_40 : decode cX9_copy 40 = .ok (.ifnonnull 10, 3) := by decide +kernel
theorem dX9_copy_43 : decode cX9_copy 43 = .ok (.aload_n 0, 1) := by decide +kernel
theorem dX9_copy_44 : decode cX9_copy 44 = .ok (.bipush (-10), 2) := by decide +kernel
theorem dX9_copy_46 : decode cX9_copy 46 = .ok (.invokevirtual 103, 3) := by decide +kernel
theorem dX9_copy_49 : decode cX9_copy 49 = .ok (.ireturn, 1) := by decide +kernel
theorem dX9_copy_50 : decode cX9_copy 50 = .ok (.aload 6, 2) := by decide +kernel
theorem dX9_copy_52 : decode cX9_copy 52 = .ok (.getfield 114, 3) := by decide +kernel
theorem dX9_copy_55 : decode cX9_copy 55 = .ok (.aload 7, 2) := by decide +kernel
theorem dX9_copy_57 : decode cX9_copy 57 = .ok (.getfield 114, 3) := by decide +kernel
theorem dX9_copy_60 : decode cX9_copy 60 = .ok (.if_icmp .eq 10, 3) := by decide +kernel
theorem dX9_copy_63 : decode cX9_copy 63 = .ok (.aload_n 0, 1) := by decide +kernel
theorem dX9_copy_64 : decode cX9_copy 64 = .ok (.bipush (-12), 2) := by decide +kernel
theorem dX9_copy_66 : decode cX9_copy 66 = .ok (.invokevirtual 103, 3) := by decide +kernel
theorem dX9_copy_69 : decode cX9_copy 69 = .ok (.ireturn, 1) := by decide +kernel
theorem dX9_copy_70 : decode cX9_copy 70 = .ok (.aload 6, 2) := by decide +kernel
theorem dX9_copy_72 : decode cX9_copy 72 = .ok (.iload_n 2, 1) := by decide +kernel
theorem dX9_copy_73 : decode cX9_copy 73 = .ok (.iload 5, 2) := by decide +kernel
theorem dX9_copy_75 : decode cX9_copy 75 = .ok (.invokestatic 121, 3) := by decide +kernel
theorem dX9_copy_78 : decode cX9_copy 78 = .ok (.ifCond .eq 15, 3) := by decide +kernel
theorem dX9_copy_81 : decode cX9_copy 81 = .ok (.aload 7, 2) := by decide +kernel
theorem dX9_copy_83 : decode cX9_copy 83 = .ok (.iload 4, 2) := by decide +kernel
theorem dX9_copy_85 : decode cX9_copy 85 = .ok (.iload 5, 2) := by decide +kernel
theorem dX9_copy_87 : decode cX9_copy 87 = .ok (.invokestatic 121, 3) := by decide +kernel
theorem dX9_copy_90 : decode cX9_copy 90 = .ok (.ifCond .ne 10, 3) := by decide +kernel
theorem dX9_copy_93 : decode cX9_copy 93 = .ok (.aload_n 0, 1) := by decide +kernel
theorem dX9_copy_94 : decode cX9_copy 94 = .ok (.bipush (-11), 2) := by decide +kernel
theorem dX9_copy_96 : decode cX9_copy 96 = .ok (.invokevirtual 103, 3) := by decide +kernel
theorem dX9_copy_99 : decode cX9_copy 99 = .ok (.ireturn, 1) := by decide +kernel
theorem dX9_copy_100 : decode cX9_copy 100 = .ok (.aload 6, 2) := by decide +kernel
theorem dX9_copy_102 : decode cX9_copy 102 = .ok (.getfield 110, 3) := by decide +kernel
theorem dX9_copy_105 : decode cX9_copy 105 = .ok (.iload_n 2, 1) := by decide +kernel
theorem dX9_copy_106 : decode cX9_copy 106 = .ok (.aload 7, 2) := by decide +kernel
theorem dX9_copy_108 : decode cX9_copy 108 = .ok (.getfield 110, 3) := by decide +kernel
theorem dX9_copy_111 : decode cX9_copy 111 = .ok (.iload 4, 2) := by decide +kernel
theorem dX9_copy_113 : decode cX9_copy 113 = .ok (.iload 5, 2) := by decide +kernel
theorem dX9_copy_115 : decode cX9_copy 115 = .ok (.invokestatic 125, 3) := by decide +kernel
theorem dX9_copy_118 : decode cX9_copy 118 = .ok (.iload 5, 2) := by decide +kernel
theorem dX9_copy_120 : decode cX9_copy 120 = .ok (.ireturn, 1) := by decide +kernel
theorem yd_X9_copy : yX9_copy.cls = RX9 ∧ yX9_copy.cls ≠ "java/lang/invoke/MethodHandle" ∧ yX9_copy.cls ≠ "java/lang/invoke/VarHandle" ∧ (parseMethodDescriptor yX9_copy.desc).map (fun d => d.parameters.length) = some 5 := by decide +kernel
abbrev rmX9_copy : Room := { frames := 1, cells := 0, slots := 0, locals := 80 }
def fX9_copy_J93 (o : Nat) (z : CS) : Option (Int32 × CS) :=
  (fX9_counted o z (-11 : Int32)).bind fun q11 =>
  some (q11.1, q11.2)
def fX9_copy_J43 (o : Nat) (z : CS) : Option (Int32 × CS) :=
  (fX9_counted o z (-10 : Int32)).bind fun q6 =>
  some (q6.1, q6.2)
def fX9_copy_J14 (o : Nat) (z : CS) : Option (Int32 × CS) :=
  some ((-2 : Int32), z)
def fX9_copy (o : Nat) (z : CS) (a1 : Int32) (a2 : Int32) (a3 : Int32) (a4 : Int32) (a5 : Int32) : Option (Int32 × CS) :=
  (fX9_isSheet a1).bind fun q1 =>
  if q1 = 0 then
    fX9_copy_J14 o z
  else
    (fX9_isSheet a3).bind fun q2 =>
    if q2 = 0 then
      fX9_copy_J14 o z
    else
      (aQ 6 (z.2.2.1 0) a1).bind fun v3 =>
      (aQ 6 (z.2.2.1 0) a3).bind fun v4 =>
      qc v3
        (
          fX9_copy_J43 o z
        )
        (fun ad5 =>
          qc v4
            (
              fX9_copy_J43 o z
            )
            (fun ad7 =>
              (dS z ad5).bind fun t8 =>
              (dS z ad7).bind fun t9 =>
              if t8.1 = t9.1 then
                (fX9_hasRoom o z ad5 a2 a5).bind fun q10 =>
                if q10 = 0 then
                  fX9_copy_J93 o z
                else
                  (fX9_hasRoom o z ad7 a4 a5).bind fun q12 =>
                  if q12 = 0 then
                    fX9_copy_J93 o z
                  else
                    (dS z ad5).bind fun t13 =>
                    (dS z ad7).bind fun t14 =>
                    (t14.2).bind fun ad15 =>
                    (t13.2).bind fun ad16 =>
                    (cpL o z ad16 a2 ad15 a4 a5).bind fun z17 =>
                    some (a5, z17)
              else
                (fX9_counted o z (-12 : Int32)).bind fun q18 =>
                some (q18.1, q18.2)
            )
        )
set_option maxHeartbeats 4000000 in
set_option maxRecDepth 100000 in
theorem tX9_copy (κ : KK) (l : Launch) (o : Nat) (z : CS) (a1 : Int32) (a2 : Int32) (a3 : Int32) (a4 : Int32) (a5 : Int32) (q : Int32 × CS) (h : fX9_copy o z a1 a2 a3 a4 a5 = some q) : MM κ l yX9_copy cX9_copy 8 (some .int) rmX9_copy (CA o) [.ref o, .int a1, .int a2, .int a3, .int a4, .int a5] (CB κ o z) (some (Value.int q.1)) (CB κ o q.2) := by
  refine MM.of (by decide +kernel) (Nat.le_of_ble_eq_true rfl) ?_
  intro p e s m below meth c C hnm
  have J93 : ∀ (z : CS), fX9_copy_J93 o z = some q → GC κ p l e s m ([.ref o, .int a1, .int a2, .int a3, .int a4, .int a5] : List Value).toArray below meth c rmX9_copy 8 o (some (Value.int q.1)) (CB κ o q.2) 0 0 z 93 [(0, .ref o)] [] := by
    intro z h
    unfold fX9_copy_J93 at h
    refine G_aload_n (pc' := 94) C dX9_copy_93 0 rfl rfl ?_
    refine G_bipush (pc' := 96) (v := (-11 : Int32)) C dX9_copy_94 (by decide) rfl ?_
    replace h := ob h
    obtain ⟨q11, hq11, h⟩ := h
    refine G_cV0 (pc' := 99) C dX9_copy_96 (tX9_counted κ l o z (-11 : Int32) q11 hq11) (wV tw_ml_X9_103 tw_im_X9_counted tw_se_X9_X9_counted tw_in_X9 tw_co_X9_counted) yd_X9_counted rfl fi_X9 (CB_rd 0 rfl) rfl rfl (by decide) rfl (Nat.le_of_ble_eq_true rfl) rfl rfl ?_
    refine G_widen (k := rmX9_copy.cells) (n := rmX9_copy.slots) (by decide) (by decide) ?_
    obtain rfl := Option.some.inj h
    exact G_iret C dX9_copy_99 (fun _ h => h)
  have J43 : ∀ (z : CS), fX9_copy_J43 o z = some q → GC κ p l e s m ([.ref o, .int a1, .int a2, .int a3, .int a4, .int a5] : List Value).toArray below meth c rmX9_copy 8 o (some (Value.int q.1)) (CB κ o q.2) 0 0 z 43 [(0, .ref o)] [] := by
    intro z h
    unfold fX9_copy_J43 at h
    refine G_aload_n (pc' := 44) C dX9_copy_43 0 rfl rfl ?_
    refine G_bipush (pc' := 46) (v := (-10 : Int32)) C dX9_copy_44 (by decide) rfl ?_
    replace h := ob h
    obtain ⟨q6, hq6, h⟩ := h
    refine G_cV0 (pc' := 49) C dX9_copy_46 (tX9_counted κ l o z (-10 : Int32) q6 hq6) (wV tw_ml_X9_103 tw_im_X9_counted tw_se_X9_X9_counted tw_in_X9 tw_co_X9_counted) yd_X9_counted rfl fi_X9 (CB_rd 0 rfl) rfl rfl (by decide) rfl (Nat.le_of_ble_eq_true rfl) rfl rfl ?_
    refine G_widen (k := rmX9_copy.cells) (n := rmX9_copy.slots) (by decide) (by decide) ?_
    obtain rfl := Option.some.inj h
    exact G_iret C dX9_copy_49 (fun _ h => h)
  have J14 : ∀ (z : CS), fX9_copy_J14 o z = some q → GC κ p l e s m ([.ref o, .int a1, .int a2, .int a3, .int a4, .int a5] : List Value).toArray below meth c rmX9_copy 8 o (some (Value.int q.1)) (CB κ o q.2) 0 0 z 14 [] [] := by
    intro z h
    unfold fX9_copy_J14 at h
    refine G_bipush (pc' := 16) (v := (-2 : Int32)) C dX9_copy_14 (by decide) rfl ?_
    refine G_widen (k := rmX9_copy.cells) (n := rmX9_copy.slots) (by decide) (by decide) ?_
    obtain rfl := Option.some.inj h
    exact G_iret C dX9_copy_16 (fun _ h => h)
  unfold fX9_copy at h
  refine G_sub (lv' := [(0, .ref o), (1, .int a1), (2, .int a2), (3, .int a3), (4, .int a4), (5, .int a5)]) [0, 1, 2, 3, 4, 5] rfl ?_
  refine G_iload_n (pc' := 1) C dX9_copy_0 1 rfl rfl ?_
  replace h := ob h
  obtain ⟨q1, hq1, h⟩ := h
  refine G_cS0 (pc' := 4) C dX9_copy_1 (tX9_isSheet κ l (CA o) (CB κ o z) a1 q1 hq1) (wS tw_ml_X9_96 tw_st_X9_isSheet tw_co_X9_isSheet tw_in_X9) yd_X9_isSheet rfl rfl rfl (by decide) rfl (Nat.le_of_ble_eq_true rfl) rfl rfl ?_
  refine G_if_eq (tgt := 14) (pc' := 7) C dX9_copy_4 (by decide) rfl (fun hc => ?_) (fun hc => ?_)
  · replace h := z_ip hc h
    exact G_sub (lv' := []) [] rfl (J14 z h)
  · replace h := z_in hc h
    refine G_iload_n (pc' := 8) C dX9_copy_7 3 rfl rfl ?_
    replace h := ob h
    obtain ⟨q2, hq2, h⟩ := h
    refine G_cS0 (pc' := 11) C dX9_copy_8 (tX9_isSheet κ l (CA o) (CB κ o z) a3 q2 hq2) (wS tw_ml_X9_96 tw_st_X9_isSheet tw_co_X9_isSheet tw_in_X9) yd_X9_isSheet rfl rfl rfl (by decide) rfl (Nat.le_of_ble_eq_true rfl) rfl rfl ?_
    refine G_if_ne (tgt := 17) (pc' := 14) C dX9_copy_11 (by decide) rfl (fun hc => ?_) (fun hc => ?_)
    · replace h := z_in hc h
      refine G_aload_n (pc' := 18) C dX9_copy_17 0 rfl rfl ?_
      refine G_get (pc' := 21) (k := 0) C fi_X9 dX9_copy_18 tw_fl_X9_11 rfl (by decide) (CB_rd 0 rfl) rfl rfl ?_
      refine G_iload_n (pc' := 22) C dX9_copy_21 1 rfl rfl ?_
      replace h := ob h
      obtain ⟨v3, hv3, h⟩ := h
      refine G_aald4V (pc' := 23) C dX9_copy_22 (CB_rd 1 rfl) hv3 rfl ?_
      refine G_qstore (pc' := 25) C dX9_copy_23 [(6, va_rf v3), (0, .ref o), (1, .int a1), (2, .int a2), (3, .int a3), (4, .int a4), (5, .int a5)] (by decide) rfl rfl ?_
      refine G_aload_n (pc' := 26) C dX9_copy_25 1 rfl rfl ?_
      refine G_get (pc' := 29) (k := 0) C fi_X9 dX9_copy_26 tw_fl_X9_11 rfl (by decide) (CB_rd 0 rfl) rfl rfl ?_
      refine G_iload_n (pc' := 30) C dX9_copy_29 4 rfl rfl ?_
      replace h := ob h
      obtain ⟨v4, hv4, h⟩ := h
      refine G_aald4V (pc' := 31) C dX9_copy_30 (CB_rd 1 rfl) hv4 rfl ?_
      refine G_qstore (pc' := 33) C dX9_copy_31 [(7, va_rf v4), (6, va_rf v3), (0, .ref o), (1, .int a1), (2, .int a2), (3, .int a3), (4, .int a4), (5, .int a5)] (by decide) (by simp [List.filter, rf_cat]) rfl ?_
      refine G_qload (pc' := 35) C dX9_copy_33 1 rfl rfl ?_
      refine G_ifnull (tgt := 43) (pc' := 38) C dX9_copy_35 (by decide) rfl (fun hc => ?_) (fun ad5 hc => ?_)
      · replace h := z_qn hc h
        exact G_sub (lv' := [(0, .ref o)]) [2] rfl (J43 z h)
      · replace h := z_qs hc h
        subst hc
        refine G_qload (pc' := 40) C dX9_copy_38 0 rfl rfl ?_
        refine G_ifnonnull (tgt := 50) (pc' := 43) C dX9_copy_40 (by decide) rfl (fun ad7 hc => ?_) (fun hc => ?_)
        · replace h := z_qs hc h
          subst hc
          refine G_aload (pc' := 52) C dX9_copy_50 1 rfl rfl ?_
          replace h := ob h
          obtain ⟨t8, ht8, h⟩ := h
          refine G_get (pc' := 55) (k := 0) C fi_X7 dX9_copy_52 tw_fl_X9_114 rfl (by decide) (CB_S ht8) rfl rfl ?_
          refine G_aload (pc' := 57) C dX9_copy_55 0 rfl rfl ?_
          replace h := ob h
          obtain ⟨t9, ht9, h⟩ := h
          refine G_get (pc' := 60) (k := 0) C fi_X7 dX9_copy_57 tw_fl_X9_114 rfl (by decide) (CB_S ht9) rfl rfl ?_
          refine G_icmp_eq (tgt := 70) (pc' := 63) C dX9_copy_60 (by decide) rfl (fun hc => ?_) (fun hc => ?_)
          · replace h := z_ip hc h
            refine G_aload (pc' := 72) C dX9_copy_70 1 rfl rfl ?_
            refine G_iload_n (pc' := 73) C dX9_copy_72 4 rfl rfl ?_
            refine G_iload (pc' := 75) C dX9_copy_73 7 rfl rfl ?_
            replace h := ob h
            obtain ⟨q10, hq10, h⟩ := h
            refine G_cS0 (pc' := 78) C dX9_copy_75 (tX9_hasRoom κ l o z ad5 a2 a5 q10 hq10) (wS tw_ml_X9_121 tw_st_X9_hasRoom tw_co_X9_hasRoom tw_in_X9) yd_X9_hasRoom rfl rfl rfl (by decide) rfl (Nat.le_of_ble_eq_true rfl) rfl rfl ?_
            refine G_if_eq (tgt := 93) (pc' := 81) C dX9_copy_78 (by decide) rfl (fun hc => ?_) (fun hc => ?_)
            · replace h := z_ip hc h
              exact G_sub (lv' := [(0, .ref o)]) [2] rfl (J93 z h)
            · replace h := z_in hc h
              refine G_aload (pc' := 83) C dX9_copy_81 0 rfl rfl ?_
              refine G_iload (pc' := 85) C dX9_copy_83 6 rfl rfl ?_
              refine G_iload (pc' := 87) C dX9_copy_85 7 rfl rfl ?_
              replace h := ob h
              obtain ⟨q12, hq12, h⟩ := h
              refine G_cS0 (pc' := 90) C dX9_copy_87 (tX9_hasRoom κ l o z ad7 a4 a5 q12 hq12) (wS tw_ml_X9_121 tw_st_X9_hasRoom tw_co_X9_hasRoom tw_in_X9) yd_X9_hasRoom rfl rfl rfl (by decide) rfl (Nat.le_of_ble_eq_true rfl) rfl rfl ?_
              refine G_if_ne (tgt := 100) (pc' := 93) C dX9_copy_90 (by decide) rfl (fun hc => ?_) (fun hc => ?_)
              · replace h := z_in hc h
                refine G_aload (pc' := 102) C dX9_copy_100 1 rfl rfl ?_
                replace h := ob h
                obtain ⟨t13, ht13, h⟩ := h
                refine G_get (pc' := 105) (k := 1) C fi_X7 dX9_copy_102 tw_fl_X9_110 rfl (by decide) (CB_S ht13) rfl rfl ?_
                refine G_iload_n (pc' := 106) C dX9_copy_105 4 rfl rfl ?_
                refine G_aload (pc' := 108) C dX9_copy_106 0 rfl rfl ?_
                replace h := ob h
                obtain ⟨t14, ht14, h⟩ := h
                refine G_get (pc' := 111) (k := 1) C fi_X7 dX9_copy_108 tw_fl_X9_110 rfl (by decide) (CB_S ht14) rfl rfl ?_
                refine G_iload (pc' := 113) C dX9_copy_111 6 rfl rfl ?_
                refine G_iload (pc' := 115) C dX9_copy_113 7 rfl rfl ?_
                replace h := ob h
                obtain ⟨ad15, had15, h⟩ := h
                rw [had15]
                replace h := ob h
                obtain ⟨ad16, had16, h⟩ := h
                rw [had16]
                replace h := ob h
                obtain ⟨z17, hz17, h⟩ := h
                refine P_copyL (pc' := 118) C dX9_copy_115 tw_ml_X9_125 hz17 (by decide) rfl ?_
                refine G_iload (pc' := 120) C dX9_copy_118 7 rfl rfl ?_
                refine G_widen (k := rmX9_copy.cells) (n := rmX9_copy.slots) (by decide) (by decide) ?_
                obtain rfl := Option.some.inj h
                exact G_iret C dX9_copy_120 (fun _ h => h)
              · replace h := z_ip hc h
                exact G_sub (lv' := [(0, .ref o)]) [2] rfl (J93 z h)
          · replace h := z_in hc h
            refine G_aload_n (pc' := 64) C dX9_copy_63 2 rfl rfl ?_
            refine G_bipush (pc' := 66) (v := (-12 : Int32)) C dX9_copy_64 (by decide) rfl ?_
            replace h := ob h
            obtain ⟨q18, hq18, h⟩ := h
            refine G_cV0 (pc' := 69) C dX9_copy_66 (tX9_counted κ l o z (-12 : Int32) q18 hq18) (wV tw_ml_X9_103 tw_im_X9_counted tw_se_X9_X9_counted tw_in_X9 tw_co_X9_counted) yd_X9_counted rfl fi_X9 (CB_rd 0 rfl) rfl rfl (by decide) rfl (Nat.le_of_ble_eq_true rfl) rfl rfl ?_
            refine G_widen (k := rmX9_copy.cells) (n := rmX9_copy.slots) (by decide) (by decide) ?_
            obtain rfl := Option.some.inj h
            exact G_iret C dX9_copy_69 (fun _ h => h)
        · replace h := z_qn hc h
          exact G_sub (lv' := [(0, .ref o)]) [2] rfl (J43 z h)
    · replace h := z_ip hc h
      exact G_sub (lv' := []) [] rfl (J14 z h)
theorem dX9_isPlace_0 : decode cX9_isPlace 0 = .ok (.iload_n 0, 1) := by decide +kernel
theorem dX9_isPlace_1 : decode cX9_isPlace 1 = .ok (.ifCond .lt 13, 3) := by decide +kernel
theorem dX9_isPlace_4 : decode cX9_isPlace 4 = .ok (.iload_n 0, 1) := by decide +kernel
theorem dX9_isPlace_5 : decode cX9_isPlace 5 = .ok (.bipush 8, 2) := by decide +kernel
theorem dX9_isPlace_7 : decode cX9_isPlace 7 = .ok (.if_icmp .ge 7, 3) := by decide +kernel
theorem dX9_isPlace_10 : decode cX9_isPlace 10 = .ok (.iconst 1, 1) := by decide +kernel
theorem dX9_isPlace_11 : decode cX9_isPlace 11 = .ok (.goto 4, 3) := by decide +kernel
theorem dX9_isPlace_14 : decode cX9_isPlace 14 = .ok (.iconst 0, 1) := by decide +kernel
theorem dX9_isPlace_15 : decode cX9_isPlace 15 = .ok (.ireturn, 1) := by decide +kernel
theorem yd_X9_isPlace : yX9_isPlace.cls ≠ "java/lang/invoke/MethodHandle" ∧ yX9_isPlace.cls ≠ "java/lang/invoke/VarHandle" ∧ (parseMethodDescriptor yX9_isPlace.desc).map (fun d => d.parameters.length) = some 1 := by decide +kernel
abbrev rmX9_isPlace : Room := { frames := 0, cells := 0, slots := 0, locals := 0 }
def fX9_isPlace_J14  : Option (Int32) :=
  some (0 : Int32)
def fX9_isPlace (a1 : Int32) : Option (Int32) :=
  if a1 < 0 then
    fX9_isPlace_J14 
  else
    if (8 : Int32) ≤ a1 then
      fX9_isPlace_J14 
    else
      some (1 : Int32)
set_option maxHeartbeats 4000000 in
set_option maxRecDepth 100000 in
theorem tX9_isPlace (κ : KK) (l : Launch) (A : Nat → Prop) (B : Heap → Prop) (a1 : Int32) (q : Int32) (h : fX9_isPlace a1 = some q) : MM κ l yX9_isPlace cX9_isPlace 1 (some .boolean) rmX9_isPlace A [.int a1] B (some (Value.int q)) B := by
  refine MM.of (by decide +kernel) (Nat.le_of_ble_eq_true rfl) ?_
  intro p e s m below meth c C hnm
  have J14 : fX9_isPlace_J14  = some q → GT p l e s m ([.int a1] : List Value).toArray below meth c rmX9_isPlace 1 A (some (Value.int q)) B B 14 [] [] := by
    intro  h
    unfold fX9_isPlace_J14 at h
    refine G_iconst (pc' := 15) (v := (0 : Int32)) C dX9_isPlace_14 (by decide) rfl ?_
    obtain rfl := Option.some.inj h
    exact G_zret (v := (0 : Int32)) C rfl dX9_isPlace_15 (fun _ h => h)
  unfold fX9_isPlace at h
  refine G_sub (lv' := [(0, .int a1)]) [0] rfl ?_
  refine G_iload_n (pc' := 1) C dX9_isPlace_0 0 rfl rfl ?_
  refine G_if_lt (tgt := 14) (pc' := 4) C dX9_isPlace_1 (by decide) rfl (fun hc => ?_) (fun hc => ?_)
  · replace h := z_ip hc h
    exact G_sub (lv' := []) [] rfl (J14  h)
  · replace h := z_in hc h
    refine G_iload_n (pc' := 5) C dX9_isPlace_4 0 rfl rfl ?_
    refine G_bipush (pc' := 7) (v := (8 : Int32)) C dX9_isPlace_5 (by decide) rfl ?_
    refine G_icmp_ge (tgt := 14) (pc' := 10) C dX9_isPlace_7 (by decide) rfl (fun hc => ?_) (fun hc => ?_)
    · replace h := z_ip hc h
      exact G_sub (lv' := []) [] rfl (J14  h)
    · replace h := z_in hc h
      refine G_iconst (pc' := 11) (v := (1 : Int32)) C dX9_isPlace_10 (by decide) rfl ?_
      refine G_goto (tgt := 15) C dX9_isPlace_11 (by decide) ?_
      obtain rfl := Option.some.inj h
      exact G_zret (v := (1 : Int32)) C rfl dX9_isPlace_15 (fun _ h => h)
theorem dX8_init_0 : decode cX8_init 0 = .ok (.aload_n 0, 1) := by decide +kernel
theorem dX8_init_1 : decode cX8_init 1 = .ok (.invokespecial 3, 3) := by decide +kernel
theorem dX8_init_4 : decode cX8_init 4 = .ok (.aload_n 0, 1) := by decide +kernel
theorem dX8_init_5 : decode cX8_init 5 = .ok (.iload_n 1, 1) := by decide +kernel
theorem dX8_init_6 : decode cX8_init 6 = .ok (.putfield 9, 3) := by decide +kernel
theorem dX8_init_9 : decode cX8_init 9 = .ok (.aload_n 0, 1) := by decide +kernel
theorem dX8_init_10 : decode cX8_init 10 = .ok (.iload_n 2, 1) := by decide +kernel
theorem dX8_init_11 : decode cX8_init 11 = .ok (.putfield 15, 3) := by decide +kernel
theorem dX8_init_14 : decode cX8_init 14 = .ok (.aload_n 0, 1) := by decide +kernel
theorem dX8_init_15 : decode cX8_init 15 = .ok (.iload_n 3, 1) := by decide +kernel
theorem dX8_init_16 : decode cX8_init 16 = .ok (.putfield 18, 3) := by decide +kernel
theorem dX8_init_19 : decode cX8_init 19 = .ok (.aload_n 0, 1) := by decide +kernel
theorem dX8_init_20 : decode cX8_init 20 = .ok (.aload 4, 2) := by decide +kernel
theorem dX8_init_22 : decode cX8_init 22 = .ok (.putfield 21, 3) := by decide +kernel
theorem dX8_init_25 : decode cX8_init 25 = .ok (.return_, 1) := by decide +kernel
theorem yi_X8_init : yX8_init.cls ≠ "java/lang/invoke/MethodHandle" ∧ yX8_init.cls ≠ "java/lang/invoke/VarHandle" ∧ (parseMethodDescriptor yX8_init.desc).map (fun d => d.parameters.length) = some 4 := by decide +kernel
abbrev rmX8_init : Room := { frames := 1, cells := 0, slots := 0, locals := 24 }
def fX8_init (o : Nat) (z : CS) (a0 : Nat) (a1 : Int32) (a2 : Int32) (a3 : Int32) (a4 : Nat) : Option (CS) :=
  (stT o z a0 0 a1).bind fun z1 =>
  (stT o z1 a0 1 a2).bind fun z2 =>
  (stT o z2 a0 2 a3).bind fun z3 =>
  (stTs o z3 a0 a4).bind fun z4 =>
  some z4
set_option maxHeartbeats 4000000 in
set_option maxRecDepth 100000 in
theorem tX8_init (κ : KK) (l : Launch) (o : Nat) (z : CS) (a0 : Nat) (a1 : Int32) (a2 : Int32) (a3 : Int32) (a4 : Nat) (q : CS) (h : fX8_init o z a0 a1 a2 a3 a4 = some q) : MM κ l yX8_init cX8_init 5 none rmX8_init (CA o) [.ref a0, .int a1, .int a2, .int a3, .ref a4] (CB κ o z) none (CB κ o q) := by
  refine MM.of (by decide +kernel) (Nat.le_of_ble_eq_true rfl) ?_
  intro p e s m below meth c C hnm
  unfold fX8_init at h
  refine G_sub (lv' := [(0, .ref a0), (1, .int a1), (2, .int a2), (3, .int a3), (4, .ref a4)]) [0, 1, 2, 3, 4] rfl ?_
  refine G_aload_n (pc' := 1) C dX8_init_0 0 rfl rfl ?_
  refine G_objInit (pc' := 4) C dX8_init_1 tw_ml_X8_3 tw_im_java_lang_Object_init_ tw_co_java_lang_Object_init_ (by decide) rfl ?_
  refine G_aload_n (pc' := 5) C dX8_init_4 0 rfl rfl ?_
  refine G_iload_n (pc' := 6) C dX8_init_5 1 rfl rfl ?_
  replace h := ob h
  obtain ⟨z1, hz1, h⟩ := h
  refine P_pT0 (pc' := 9) C hnm dX8_init_6 hz1 rfl ?_
  refine G_aload_n (pc' := 10) C dX8_init_9 0 rfl rfl ?_
  refine G_iload_n (pc' := 11) C dX8_init_10 2 rfl rfl ?_
  replace h := ob h
  obtain ⟨z2, hz2, h⟩ := h
  refine P_pT1 (pc' := 14) C hnm dX8_init_11 hz2 rfl ?_
  refine G_aload_n (pc' := 15) C dX8_init_14 0 rfl rfl ?_
  refine G_iload_n (pc' := 16) C dX8_init_15 3 rfl rfl ?_
  replace h := ob h
  obtain ⟨z3, hz3, h⟩ := h
  refine P_pT2 (pc' := 19) C hnm dX8_init_16 hz3 rfl ?_
  refine G_aload_n (pc' := 20) C dX8_init_19 0 rfl rfl ?_
  refine G_aload (pc' := 22) C dX8_init_20 4 rfl rfl ?_
  replace h := ob h
  obtain ⟨z4, hz4, h⟩ := h
  refine P_pT3 (pc' := 25) C hnm dX8_init_22 hz4 rfl ?_
  refine G_widen (k := rmX8_init.cells) (n := rmX8_init.slots) (by decide) (by decide) ?_
  obtain rfl := Option.some.inj h
  exact G_vret C dX8_init_25 (fun _ h => h)
theorem dX9_plainTask_0 : decode cX9_plainTask 0 = .ok (.new 15, 3) := by decide +kernel
theorem dX9_plainTask_3 : decode cX9_plainTask 3 = .ok (.dup, 1) := by decide +kernel
theorem dX9_plainTask_4 : decode cX9_plainTask 4 = .ok (.iload_n 0, 1) := by decide +kernel
theorem dX9_plainTask_5 : decode cX9_plainTask 5 = .ok (.iload_n 1, 1) := by decide +kernel
theorem dX9_plainTask_6 : decode cX9_plainTask 6 = .ok (.iload_n 0, 1) := by decide +kernel
theorem dX9_plainTask_7 : decode cX9_plainTask 7 = .ok (.ifCond .ne 7, 3) := by decide +kernel
theorem dX9_plainTask_10 : decode cX9_plainTask 10 = .ok (.iload_n 1, 1) := by decide +kernel
theorem dX9_plainTask_11 : decode cX9_plainTask 11 = .ok (.goto 7, 3) := by decide +kernel
theorem dX9_plainTask_14 : decode cX9_plainTask 14 = .ok (.iload_n 1, 1) := by decide +kernel
theorem dX9_plainTask_15 : decode cX9_plainTask 15 = .ok (.bipush 10, 2) := by decide +kernel
theorem dX9_plainTask_17 : decode cX9_plainTask 17 = .ok (.iadd, 1) := by decide +kernel
theorem dX9_plainTask_18 : decode cX9_plainTask 18 = .ok (.aload_n 2, 1) := by decide +kernel
theorem dX9_plainTask_19 : decode cX9_plainTask 19 = .ok (.invokespecial 202, 3) := by decide +kernel
theorem dX9_plainTask_22 : decode cX9_plainTask 22 = .ok (.areturn, 1) := by decide +kernel
theorem yd_X9_plainTask : yX9_plainTask.cls ≠ "java/lang/invoke/MethodHandle" ∧ yX9_plainTask.cls ≠ "java/lang/invoke/VarHandle" ∧ (parseMethodDescriptor yX9_plainTask.desc).map (fun d => d.parameters.length) = some 3 := by decide +kernel
abbrev rmX9_plainTask : Room := { frames := 2, cells := 1, slots := 4, locals := 48 }
def fX9_plainTask_J18 (o : Nat) (z : CS) (l2 : Nat) (s0 : Int32) (s1 : Int32) (s2 : Int32) (s3 : Nat) (s4 : Nat) : Option (Nat × CS) :=
  (fX8_init o z s3 s2 s1 s0 l2).bind fun q2 =>
  some (s4, q2)
def fX9_plainTask (o : Nat) (z : CS) (a1 : Int32) (a2 : Int32) (a3 : Nat) : Option (Nat × CS) :=
  (alT o z).bind fun u1 =>
  if a1 = 0 then
    fX9_plainTask_J18 o u1.2 a3 a2 a2 a1 u1.1 u1.1
  else
    fX9_plainTask_J18 o u1.2 a3 (a2 + (10 : Int32)) a2 a1 u1.1 u1.1
set_option maxHeartbeats 4000000 in
set_option maxRecDepth 100000 in
theorem tX9_plainTask (κ : KK) (l : Launch) (o : Nat) (z : CS) (a1 : Int32) (a2 : Int32) (a3 : Nat) (q : Nat × CS) (h : fX9_plainTask o z a1 a2 a3 = some q) : MM κ l yX9_plainTask cX9_plainTask 3 (some (.object "QuestionBench$Task")) rmX9_plainTask (CA o) [.int a1, .int a2, .ref a3] (CB κ o z) (some (Value.ref q.1)) (CB κ o q.2) := by
  refine MM.of (by decide +kernel) (Nat.le_of_ble_eq_true rfl) ?_
  intro p e s m below meth c C hnm
  have J18 : ∀ (z : CS) (l2 : Nat) (s0 : Int32) (s1 : Int32) (s2 : Int32) (s3 : Nat) (s4 : Nat), fX9_plainTask_J18 o z l2 s0 s1 s2 s3 s4 = some q → GC κ p l e s m ([.int a1, .int a2, .ref a3] : List Value).toArray below meth c rmX9_plainTask 3 o (some (Value.ref q.1)) (CB κ o q.2) 1 4 z 18 [(2, .ref l2)] [.int s0, .int s1, .int s2, .ref s3, .ref s4] := by
    intro z l2 s0 s1 s2 s3 s4 h
    unfold fX9_plainTask_J18 at h
    refine G_aload_n (pc' := 19) C dX9_plainTask_18 0 rfl rfl ?_
    replace h := ob h
    obtain ⟨q2, hq2, h⟩ := h
    refine G_cI (pc' := 22) C dX9_plainTask_19 (tX8_init κ l o z s3 s2 s1 s0 l2 q2 hq2) ⟨tw_ml_X9_202, tw_im_X8_init, tw_co_X8_init, tw_in_X8⟩ rfl yi_X8_init rfl (by decide) rfl (Nat.le_of_ble_eq_true rfl) rfl ?_
    refine G_widen (k := rmX9_plainTask.cells) (n := rmX9_plainTask.slots) (by decide) (by decide) ?_
    obtain rfl := Option.some.inj h
    exact G_aret C dX9_plainTask_22 (fun _ h => h)
  unfold fX9_plainTask at h
  refine G_sub (lv' := [(0, .int a1), (1, .int a2), (2, .ref a3)]) [0, 1, 2] rfl ?_
  replace h := ob h
  obtain ⟨u1, hu1, h⟩ := h
  refine P_newT (pc' := 3) C dX9_plainTask_0 tw_cl_X9_15 hu1 (by decide) rfl ?_
  refine G_dup (pc' := 4) C dX9_plainTask_3 rfl rfl ?_
  refine G_iload_n (pc' := 5) C dX9_plainTask_4 0 rfl rfl ?_
  refine G_iload_n (pc' := 6) C dX9_plainTask_5 1 rfl rfl ?_
  refine G_iload_n (pc' := 7) C dX9_plainTask_6 0 rfl rfl ?_
  refine G_if_ne (tgt := 14) (pc' := 10) C dX9_plainTask_7 (by decide) rfl (fun hc => ?_) (fun hc => ?_)
  · replace h := z_in hc h
    refine G_iload_n (pc' := 15) C dX9_plainTask_14 1 rfl rfl ?_
    refine G_bipush (pc' := 17) (v := (10 : Int32)) C dX9_plainTask_15 (by decide) rfl ?_
    refine G_iadd (pc' := 18) C dX9_plainTask_17 rfl ?_
    exact G_sub (lv' := [(2, .ref a3)]) [2] rfl (J18 u1.2 a3 (a2 + (10 : Int32)) a2 a1 u1.1 u1.1 h)
  · replace h := z_ip hc h
    refine G_iload_n (pc' := 11) C dX9_plainTask_10 1 rfl rfl ?_
    refine G_goto (tgt := 18) C dX9_plainTask_11 (by decide) ?_
    exact G_sub (lv' := [(2, .ref a3)]) [2] rfl (J18 u1.2 a3 a2 a2 a1 u1.1 u1.1 h)
theorem dX8_howMany_0 : decode cX8_howMany 0 = .ok (.iconst 0, 1) := by decide +kernel
theorem dX8_howMany_1 : decode cX8_howMany 1 = .ok (.istore_n 2, 1) := by decide +kernel
theorem dX8_howMany_2 : decode cX8_howMany 2 = .ok (.iconst 0, 1) := by decide +kernel
theorem dX8_howMany_3 : decode cX8_howMany 3 = .ok (.istore_n 3, 1) := by decide +kernel
theorem dX8_howMany_4 : decode cX8_howMany 4 = .ok (.iload_n 3, 1) := by decide +kernel
theorem dX8_howMany_5 : decode cX8_howMany 5 = .ok (.aload_n 0, 1) := by decide +kernel
theorem dX8_howMany_6 : decode cX8_howMany 6 = .ok (.getfield 21, 3) := by decide +kernel
theorem dX8_howMany_9 : decode cX8_howMany 9 = .ok (.arraylength, 1) := by decide +kernel
theorem dX8_howMany_10 : decode cX8_howMany 10 = .ok (.if_icmp .ge 27, 3) := by decide +kernel
theorem dX8_howMany_13 : decode cX8_howMany 13 = .ok (.iload_n 2, 1) := by decide +kernel
theorem dX8_howMany_14 : decode cX8_howMany 14 = .ok (.aload_n 0, 1) := by decide +kernel
theorem dX8_howMany_15 : decode cX8_howMany 15 = .ok (.getfield 21, 3) := by decide +kernel
theorem dX8_howMany_18 : decode cX8_howMany 18 = .ok (.iload_n 3, 1) := by decide +kernel
theorem dX8_howMany_19 : decode cX8_howMany 19 = .ok (.baload, 1) := by decide +kernel
theorem dX8_howMany_20 : decode cX8_howMany 20 = .ok (.iload_n 1, 1) := by decide +kernel
theorem dX8_howMany_21 : decode cX8_howMany 21 = .ok (.if_icmp .ne 7, 3) := by decide +kernel
theorem dX8_howMany_24 : decode cX8_howMany 24 = .ok (.iconst 1, 1) := by decide +kernel
theorem dX8_howMany_25 : decode cX8_howMany 25 = .ok (.goto 4, 3) := by decide +kernel
theorem dX8_howMany_28 : decode cX8_howMany 28 = .ok (.iconst 0, 1) := by decide +kernel
theorem dX8_howMany_29 : decode cX8_howMany 29 = .ok (.iadd, 1) := by decide +kernel
theorem dX8_howMany_30 : decode cX8_howMany 30 = .ok (.istore_n 2, 1) := by decide +kernel
theorem dX8_howMany_31 : decode cX8_howMany 31 = .ok (.iinc 3 1, 3) := by decide +kernel
theorem dX8_howMany_34 : decode cX8_howMany 34 = .ok (.goto (-30), 3) := by decide +kernel
theorem dX8_howMany_37 : decode cX8_howMany 37 = .ok (.iload_n 2, 1) := by decide +kernel
theorem dX8_howMany_38 : decode cX8_howMany 38 = .ok (.ireturn, 1) := by decide +kernel
theorem yd_X8_howMany : yX8_howMany.cls = RX8 ∧ yX8_howMany.cls ≠ "java/lang/invoke/MethodHandle" ∧ yX8_howMany.cls ≠ "java/lang/invoke/VarHandle" ∧ (parseMethodDescriptor yX8_howMany.desc).map (fun d => d.parameters.length) = some 1 := by decide +kernel
abbrev rmX8_howMany : Room := { frames := 0, cells := 0, slots := 0, locals := 0 }
def fX8_howMany_L4_J29 (o : Nat) (z : CS) (l0 : Nat) (l1 : Int32) (l3 : Int32) (s0 : Int32) (s1 : Int32) : Option ((Int32 × Int32) ⊕ Int32) :=
  some (.inl ((s1 + s0), (l3 + (1 : Int32))))
def fX8_howMany_L4 (o : Nat) (z : CS) (l0 : Nat) (l1 : Int32) (l2 : Int32) (l3 : Int32) : Option ((Int32 × Int32) ⊕ Int32) :=
  (dT z l0).bind fun t1 =>
  (t1.2.2.2).bind fun ad2 =>
  (lnB z ad2).bind fun v3 =>
  if v3 ≤ l3 then
    some (.inr l2)
  else
    (dT z l0).bind fun t4 =>
    (t4.2.2.2).bind fun ad5 =>
    (rdB z ad5 l3).bind fun v6 =>
    if v6 = l1 then
      fX8_howMany_L4_J29 o z l0 l1 l3 (1 : Int32) l2
    else
      fX8_howMany_L4_J29 o z l0 l1 l3 (0 : Int32) l2
def fX8_howMany (o : Nat) (z : CS) (a0 : Nat) (a1 : Int32) : Option (Int32) :=
  (lpN (fun u => fX8_howMany_L4 o z a0 a1 u.1 u.2) bigN ((0 : Int32), (0 : Int32))).bind fun e7 =>
  some e7
set_option maxHeartbeats 4000000 in
set_option maxRecDepth 100000 in
theorem tX8_howMany_L4 {κ : KK} {p : Program} {l : Launch} {e : Env} {s : State} {m : MethodId} {args : Array Value} {below : List Frame} {meth : Method} {c : Code} (C : Cx κ p s m args meth c cX8_howMany 4 RX8 (some .int)) {o : Nat} {v : Option Value} {B' : Heap → Prop} {z : CS} {l0 : Nat} {l1 : Int32} {l2 : Int32} {l3 : Int32} {y : (Int32 × Int32) ⊕ Int32} (h : fX8_howMany_L4 o z l0 l1 l2 l3 = some y) (kc : ∀ u, y = .inl u → GC κ p l e s m args below meth c rmX8_howMany 4 o v B' 0 0 z 4 [(0, .ref l0), (1, .int l1), (2, .int u.1), (3, .int u.2)] []) (kx : ∀ w, y = .inr w → GC κ p l e s m args below meth c rmX8_howMany 4 o v B' 0 0 z 37 [(2, .int w)] []) : GC κ p l e s m args below meth c rmX8_howMany 4 o v B' 0 0 z 4 [(0, .ref l0), (1, .int l1), (2, .int l2), (3, .int l3)] [] := by
  have J29 : ∀ (l3 : Int32) (s0 : Int32) (s1 : Int32), fX8_howMany_L4_J29 o z l0 l1 l3 s0 s1 = some y → GC κ p l e s m args below meth c rmX8_howMany 4 o v B' 0 0 z 29 [(0, .ref l0), (1, .int l1), (3, .int l3)] [.int s0, .int s1] := by
    intro l3 s0 s1 h
    unfold fX8_howMany_L4_J29 at h
    refine G_iadd (pc' := 30) C dX8_howMany_29 rfl ?_
    refine G_istore_n (pc' := 31) C dX8_howMany_30 [(2, .int (s1 + s0)), (0, .ref l0), (1, .int l1), (3, .int l3)] (by decide) rfl rfl ?_
    refine G_iinc (pc' := 34) C dX8_howMany_31 3 rfl rfl [(3, .int (l3 + (1 : Int32))), (2, .int (s1 + s0)), (0, .ref l0), (1, .int l1)] (by decide) rfl rfl ?_
    refine G_goto (tgt := 4) C dX8_howMany_34 (by decide) ?_
    exact G_sub (lv' := [(0, .ref l0), (1, .int l1), (2, .int (s1 + s0)), (3, .int (l3 + (1 : Int32)))]) [2, 3, 1, 0] rfl (kc ((s1 + s0), (l3 + (1 : Int32))) (Option.some.inj h).symm)
  unfold fX8_howMany_L4 at h
  refine G_iload_n (pc' := 5) C dX8_howMany_4 3 rfl rfl ?_
  refine G_aload_n (pc' := 6) C dX8_howMany_5 0 rfl rfl ?_
  replace h := ob h
  obtain ⟨t1, ht1, h⟩ := h
  refine G_get (pc' := 9) (k := 3) C fi_X8 dX8_howMany_6 tw_fl_X8_21 rfl (by decide) (CB_T ht1) rfl rfl ?_
  replace h := ob h
  obtain ⟨ad2, had2, h⟩ := h
  rw [had2]
  replace h := ob h
  obtain ⟨v3, hv3, h⟩ := h
  refine P_lenB (pc' := 10) C dX8_howMany_9 hv3 rfl ?_
  refine G_icmp_ge (tgt := 37) (pc' := 13) C dX8_howMany_10 (by decide) rfl (fun hc => ?_) (fun hc => ?_)
  · replace h := z_ip hc h
    exact G_sub (lv' := [(2, .int l2)]) [2] rfl (kx _ (Option.some.inj h).symm)
  · replace h := z_in hc h
    refine G_iload_n (pc' := 14) C dX8_howMany_13 2 rfl rfl ?_
    refine G_aload_n (pc' := 15) C dX8_howMany_14 0 rfl rfl ?_
    replace h := ob h
    obtain ⟨t4, ht4, h⟩ := h
    refine G_get (pc' := 18) (k := 3) C fi_X8 dX8_howMany_15 tw_fl_X8_21 rfl (by decide) (CB_T ht4) rfl rfl ?_
    refine G_iload_n (pc' := 19) C dX8_howMany_18 3 rfl rfl ?_
    replace h := ob h
    obtain ⟨ad5, had5, h⟩ := h
    rw [had5]
    replace h := ob h
    obtain ⟨v6, hv6, h⟩ := h
    refine P_bald (pc' := 20) C dX8_howMany_19 hv6 rfl ?_
    refine G_iload_n (pc' := 21) C dX8_howMany_20 1 rfl rfl ?_
    refine G_icmp_ne (tgt := 28) (pc' := 24) C dX8_howMany_21 (by decide) rfl (fun hc => ?_) (fun hc => ?_)
    · replace h := z_in hc h
      refine G_iconst (pc' := 29) (v := (0 : Int32)) C dX8_howMany_28 (by decide) rfl ?_
      exact G_sub (lv' := [(0, .ref l0), (1, .int l1), (3, .int l3)]) [0, 1, 3] rfl (J29 l3 (0 : Int32) l2 h)
    · replace h := z_ip hc h
      refine G_iconst (pc' := 25) (v := (1 : Int32)) C dX8_howMany_24 (by decide) rfl ?_
      refine G_goto (tgt := 29) C dX8_howMany_25 (by decide) ?_
      exact G_sub (lv' := [(0, .ref l0), (1, .int l1), (3, .int l3)]) [0, 1, 3] rfl (J29 l3 (1 : Int32) l2 h)
set_option maxHeartbeats 4000000 in
set_option maxRecDepth 100000 in
theorem tX8_howMany (κ : KK) (l : Launch) (o : Nat) (z : CS) (a0 : Nat) (a1 : Int32) (q : Int32) (h : fX8_howMany o z a0 a1 = some q) : MM κ l yX8_howMany cX8_howMany 4 (some .int) rmX8_howMany (CA o) [.ref a0, .int a1] (CB κ o z) (some (Value.int q)) (CB κ o z) := by
  refine MM.of (by decide +kernel) (Nat.le_of_ble_eq_true rfl) ?_
  intro p e s m below meth c C hnm
  unfold fX8_howMany at h
  refine G_sub (lv' := [(0, .ref a0), (1, .int a1)]) [0, 1] rfl ?_
  refine G_iconst (pc' := 1) (v := (0 : Int32)) C dX8_howMany_0 (by decide) rfl ?_
  refine G_istore_n (pc' := 2) C dX8_howMany_1 [(2, .int (0 : Int32)), (0, .ref a0), (1, .int a1)] (by decide) rfl rfl ?_
  refine G_iconst (pc' := 3) (v := (0 : Int32)) C dX8_howMany_2 (by decide) rfl ?_
  refine G_istore_n (pc' := 4) C dX8_howMany_3 [(3, .int (0 : Int32)), (2, .int (0 : Int32)), (0, .ref a0), (1, .int a1)] (by decide) rfl rfl ?_
  replace h := ob h
  obtain ⟨e7, hle7, h⟩ := h
  refine G_sub (lv' := [(0, .ref a0), (1, .int a1), (2, .int (0 : Int32)), (3, .int (0 : Int32))]) [2, 3, 1, 0] rfl ?_
  refine lpN_ind (body := fun u => fX8_howMany_L4 o z a0 a1 u.1 u.2) (P := fun u => GC κ p l e s m ([.ref a0, .int a1] : List Value).toArray below meth c rmX8_howMany 4 o (some (Value.int q)) (CB κ o z) 0 0 z 4 [(0, .ref a0), (1, .int a1), (2, .int u.1), (3, .int u.2)] []) (X := fun w => GC κ p l e s m ([.ref a0, .int a1] : List Value).toArray below meth c rmX8_howMany 4 o (some (Value.int q)) (CB κ o z) 0 0 z 37 [(2, .int w)] []) (fun u y hb kc kx => tX8_howMany_L4 C hb kc kx) _ _ _ hle7 ?_
  refine G_iload_n (pc' := 38) C dX8_howMany_37 0 rfl rfl ?_
  obtain rfl := Option.some.inj h
  exact G_iret C dX8_howMany_38 (fun _ h => h)
theorem dX9_saidBy_0 : decode cX9_saidBy 0 = .ok (.iload_n 1, 1) := by decide +kernel
theorem dX9_saidBy_1 : decode cX9_saidBy 1 = .ok (.aload_n 0, 1) := by decide +kernel
theorem dX9_saidBy_2 : decode cX9_saidBy 2 = .ok (.getfield 110, 3) := by decide +kernel
theorem dX9_saidBy_5 : decode cX9_saidBy 5 = .ok (.arraylength, 1) := by decide +kernel
theorem dX9_saidBy_6 : decode cX9_saidBy 6 = .ok (.if_icmp .ge 14, 3) := by decide +kernel
theorem dX9_saidBy_9 : decode cX9_saidBy 9 = .ok (.aload_n 0, 1) := by decide +kernel
theorem dX9_saidBy_10 : decode cX9_saidBy 10 = .ok (.getfield 110, 3) := by decide +kernel
theorem dX9_saidBy_13 : decode cX9_saidBy 13 = .ok (.iload_n 1, 1) := by decide +kernel
theorem dX9_saidBy_14 : decode cX9_saidBy 14 = .ok (.laload, 1) := by decide +kernel
theorem dX9_saidBy_15 : decode cX9_saidBy 15 = .ok (.lconst 0, 1) := by decide +kernel
theorem dX9_saidBy_16 : decode cX9_saidBy 16 = .ok (.lcmp, 1) := by decide +kernel
theorem dX9_saidBy_17 : decode cX9_saidBy 17 = .ok (.ifCond .ge 5, 3) := by decide +kernel
theorem dX9_saidBy_20 : decode cX9_saidBy 20 = .ok (.iconst 2, 1) := by decide +kernel
theorem dX9_saidBy_21 : decode cX9_saidBy 21 = .ok (.ireturn, 1) := by decide +kernel
theorem dX9_saidBy_22 : decode cX9_saidBy 22 = .ok (.aload_n 0, 1) := by decide +kernel
theorem dX9_saidBy_23 : decode cX9_saidBy 23 = .ok (.getfield 110, 3) := by decide +kernel
theorem dX9_saidBy_26 : decode cX9_saidBy 26 = .ok (.iload_n 1, 1) := by decide +kernel
theorem dX9_saidBy_27 : decode cX9_saidBy 27 = .ok (.laload, 1) := by decide +kernel
theorem dX9_saidBy_28 : decode cX9_saidBy 28 = .ok (.lconst 0, 1) := by decide +kernel
theorem dX9_saidBy_29 : decode cX9_saidBy 29 = .ok (.lcmp, 1) := by decide +kernel
theorem dX9_saidBy_30 : decode cX9_saidBy 30 = .ok (.ifCond .le 7, 3) := by decide +kernel
theorem dX9_saidBy_33 : decode cX9_saidBy 33 = .ok (.iconst 1, 1) := by decide +kernel
theorem dX9_saidBy_34 : decode cX9_saidBy 34 = .ok (.goto 4, 3) := by decide +kernel
theorem dX9_saidBy_37 : decode cX9_saidBy 37 = .ok (.iconst 0, 1) := by decide +kernel
theorem dX9_saidBy_38 : decode cX9_saidBy 38 = .ok (.i2b, 1) := by decide +kernel
theorem dX9_saidBy_39 : decode cX9_saidBy 39 = .ok (.ireturn, 1) := by decide +kernel
theorem yd_X9_saidBy : yX9_saidBy.cls ≠ "java/lang/invoke/MethodHandle" ∧ yX9_saidBy.cls ≠ "java/lang/invoke/VarHandle" ∧ (parseMethodDescriptor yX9_saidBy.desc).map (fun d => d.parameters.length) = some 2 := by decide +kernel
abbrev rmX9_saidBy : Room := { frames := 0, cells := 0, slots := 0, locals := 0 }
def fX9_saidBy_J38 (o : Nat) (z : CS) (s0 : Int32) : Option (Int32) :=
  some (Int8.toInt32 (Int32.toInt8 s0))
def fX9_saidBy_J20 (o : Nat) (z : CS) : Option (Int32) :=
  some (2 : Int32)
def fX9_saidBy (o : Nat) (z : CS) (a1 : Nat) (a2 : Int32) : Option (Int32) :=
  (dS z a1).bind fun t1 =>
  (t1.2).bind fun ad2 =>
  (lnL z ad2).bind fun v3 =>
  if v3 ≤ a2 then
    fX9_saidBy_J20 o z
  else
    (dS z a1).bind fun t4 =>
    (t4.2).bind fun ad5 =>
    (rdL z ad5 a2).bind fun v6 =>
    if 0 ≤ (lg_cmp v6 (0 : Int64)) then
      (dS z a1).bind fun t7 =>
      (t7.2).bind fun ad8 =>
      (rdL z ad8 a2).bind fun v9 =>
      if (lg_cmp v9 (0 : Int64)) ≤ 0 then
        fX9_saidBy_J38 o z (0 : Int32)
      else
        fX9_saidBy_J38 o z (1 : Int32)
    else
      fX9_saidBy_J20 o z
set_option maxHeartbeats 4000000 in
set_option maxRecDepth 100000 in
theorem tX9_saidBy (κ : KK) (l : Launch) (o : Nat) (z : CS) (a1 : Nat) (a2 : Int32) (q : Int32) (h : fX9_saidBy o z a1 a2 = some q) : MM κ l yX9_saidBy cX9_saidBy 2 (some .byte) rmX9_saidBy (CA o) [.ref a1, .int a2] (CB κ o z) (some (Value.int q)) (CB κ o z) := by
  refine MM.of (by decide +kernel) (Nat.le_of_ble_eq_true rfl) ?_
  intro p e s m below meth c C hnm
  have J38 : ∀ (s0 : Int32), fX9_saidBy_J38 o z s0 = some q → GC κ p l e s m ([.ref a1, .int a2] : List Value).toArray below meth c rmX9_saidBy 2 o (some (Value.int q)) (CB κ o z) 0 0 z 38 [] [.int s0] := by
    intro s0 h
    unfold fX9_saidBy_J38 at h
    refine G_i2b (pc' := 39) C dX9_saidBy_38 rfl ?_
    obtain rfl := Option.some.inj h
    exact G_zret (v := (Int8.toInt32 (Int32.toInt8 s0))) C (pk_nb _) dX9_saidBy_39 (fun _ h => h)
  have J20 : fX9_saidBy_J20 o z = some q → GC κ p l e s m ([.ref a1, .int a2] : List Value).toArray below meth c rmX9_saidBy 2 o (some (Value.int q)) (CB κ o z) 0 0 z 20 [] [] := by
    intro  h
    unfold fX9_saidBy_J20 at h
    refine G_iconst (pc' := 21) (v := (2 : Int32)) C dX9_saidBy_20 (by decide) rfl ?_
    obtain rfl := Option.some.inj h
    exact G_zret (v := (2 : Int32)) C rfl dX9_saidBy_21 (fun _ h => h)
  unfold fX9_saidBy at h
  refine G_sub (lv' := [(0, .ref a1), (1, .int a2)]) [0, 1] rfl ?_
  refine G_iload_n (pc' := 1) C dX9_saidBy_0 1 rfl rfl ?_
  refine G_aload_n (pc' := 2) C dX9_saidBy_1 0 rfl rfl ?_
  replace h := ob h
  obtain ⟨t1, ht1, h⟩ := h
  refine G_get (pc' := 5) (k := 1) C fi_X7 dX9_saidBy_2 tw_fl_X9_110 rfl (by decide) (CB_S ht1) rfl rfl ?_
  replace h := ob h
  obtain ⟨ad2, had2, h⟩ := h
  rw [had2]
  replace h := ob h
  obtain ⟨v3, hv3, h⟩ := h
  refine P_lenL (pc' := 6) C dX9_saidBy_5 hv3 rfl ?_
  refine G_icmp_ge (tgt := 20) (pc' := 9) C dX9_saidBy_6 (by decide) rfl (fun hc => ?_) (fun hc => ?_)
  · replace h := z_ip hc h
    exact G_sub (lv' := []) [] rfl (J20  h)
  · replace h := z_in hc h
    refine G_aload_n (pc' := 10) C dX9_saidBy_9 0 rfl rfl ?_
    replace h := ob h
    obtain ⟨t4, ht4, h⟩ := h
    refine G_get (pc' := 13) (k := 1) C fi_X7 dX9_saidBy_10 tw_fl_X9_110 rfl (by decide) (CB_S ht4) rfl rfl ?_
    refine G_iload_n (pc' := 14) C dX9_saidBy_13 1 rfl rfl ?_
    replace h := ob h
    obtain ⟨ad5, had5, h⟩ := h
    rw [had5]
    replace h := ob h
    obtain ⟨v6, hv6, h⟩ := h
    refine P_lald (pc' := 15) C dX9_saidBy_14 hv6 rfl ?_
    refine G_lconst (pc' := 16) (v := (0 : Int64)) C dX9_saidBy_15 (by decide) rfl ?_
    refine G_lcmp (pc' := 17) C dX9_saidBy_16 rfl ?_
    refine G_if_ge (tgt := 22) (pc' := 20) C dX9_saidBy_17 (by decide) rfl (fun hc => ?_) (fun hc => ?_)
    · replace h := z_ip hc h
      refine G_aload_n (pc' := 23) C dX9_saidBy_22 0 rfl rfl ?_
      replace h := ob h
      obtain ⟨t7, ht7, h⟩ := h
      refine G_get (pc' := 26) (k := 1) C fi_X7 dX9_saidBy_23 tw_fl_X9_110 rfl (by decide) (CB_S ht7) rfl rfl ?_
      refine G_iload_n (pc' := 27) C dX9_saidBy_26 1 rfl rfl ?_
      replace h := ob h
      obtain ⟨ad8, had8, h⟩ := h
      rw [had8]
      replace h := ob h
      obtain ⟨v9, hv9, h⟩ := h
      refine P_lald (pc' := 28) C dX9_saidBy_27 hv9 rfl ?_
      refine G_lconst (pc' := 29) (v := (0 : Int64)) C dX9_saidBy_28 (by decide) rfl ?_
      refine G_lcmp (pc' := 30) C dX9_saidBy_29 rfl ?_
      refine G_if_le (tgt := 37) (pc' := 33) C dX9_saidBy_30 (by decide) rfl (fun hc => ?_) (fun hc => ?_)
      · replace h := z_ip hc h
        refine G_iconst (pc' := 38) (v := (0 : Int32)) C dX9_saidBy_37 (by decide) rfl ?_
        exact G_sub (lv' := []) [] rfl (J38 (0 : Int32) h)
      · replace h := z_in hc h
        refine G_iconst (pc' := 34) (v := (1 : Int32)) C dX9_saidBy_33 (by decide) rfl ?_
        refine G_goto (tgt := 38) C dX9_saidBy_34 (by decide) ?_
        exact G_sub (lv' := []) [] rfl (J38 (1 : Int32) h)
    · replace h := z_in hc h
      exact G_sub (lv' := []) [] rfl (J20  h)
theorem dX9_task_0 : decode cX9_task 0 = .ok (.iload_n 1, 1) := by decide +kernel
theorem dX9_task_1 : decode cX9_task 1 = .ok (.invokestatic 131, 3) := by decide +kernel
theorem dX9_task_4 : decode cX9_task 4 = .ok (.ifCond .eq 21, 3) := by decide +kernel
theorem dX9_task_7 : decode cX9_task 7 = .ok (.iload_n 3, 1) := by decide +kernel
theorem dX9_task_8 : decode cX9_task 8 = .ok (.invokestatic 96, 3) := by decide +kernel
theorem dX9_task_11 : decode cX9_task 11 = .ok (.ifCond .eq 14, 3) := by decide +kernel
theorem dX9_task_14 : decode cX9_task 14 = .ok (.iload_n 2, 1) := by decide +kernel
theorem dX9_task_15 : decode cX9_task 15 = .ok (.iconst 1, 1) := by decide +kernel
theorem dX9_task_16 : decode cX9_task 16 = .ok (.if_icmp .lt 9, 3) := by decide +kernel
theorem dX9_task_19 : decode cX9_task 19 = .ok (.iload_n 2, 1) := by decide +kernel
theorem dX9_task_20 : decode cX9_task 20 = .ok (.bipush 8, 2) := by decide +kernel
theorem dX9_task_22 : decode cX9_task 22 = .ok (.if_icmp .le 6, 3) := by decide +kernel
theorem dX9_task_25 : decode cX9_task 25 = .ok (.bipush (-2), 2) := by decide +kernel
theorem dX9_task_27 : decode cX9_task 27 = .ok (.ireturn, 1) := by decide +kernel
theorem dX9_task_28 : decode cX9_task 28 = .ok (.iconst 1, 1) := by decide +kernel
theorem dX9_task_29 : decode cX9_task 29 = .ok (.iload_n 2, 1) := by decide +kernel
theorem dX9_task_30 : decode cX9_task 30 = .ok (.ishl, 1) := by decide +kernel
theorem dX9_task_31 : decode cX9_task 31 = .ok (.newarray .byte, 2) := by decide +kernel
theorem dX9_task_33 : decode cX9_task 33 = .ok (.astore 4, 2) := by decide +kernel
theorem dX9_task_35 : decode cX9_task 35 = .ok (.aload_n 0, 1) := by decide +kernel
theorem dX9_task_36 : decode cX9_task 36 = .ok (.getfield 11, 3) := by decide +kernel
theorem dX9_task_39 : decode cX9_task 39 = .ok (.iload_n 3, 1) := by decide +kernel
theorem dX9_task_40 : decode cX9_task 40 = .ok (.aaload, 1) := by decide +kernel
theorem dX9_task_41 : decode cX9_task 41 = .ok (.astore 5, 2) := by decide +kernel
theorem dX9_task_43 : decode cX9_task 43 = .ok (.aload 5, 2) := by decide +kernel
theorem dX9_task_45 : decode cX9_task 45 = .ok (.ifnull 32, 3) := by decide +kernel
theorem dX9_task_48 : decode cX9_task 48 = .ok (.iconst 0, 1) := by decide +kernel
theorem dX9_task_49 : decode cX9_task 49 = .ok (.istore 6, 2) := by decide +kernel
theorem dX9_task_51 : decode cX9_task 51 = .ok (.iload 6, 2) := by decide +kernel
theorem dX9_task_53 : decode cX9_task 53 = .ok (.aload 4, 2) := by decide +kernel
theorem dX9_task_55 : decode cX9_task 55 = .ok (.arraylength, 1) := by decide +kernel
theorem dX9_task_56 : decode cX9_task 56 = .ok (.if_icmp .ge 21, 3) := by decide +kernel
theorem dX9_task_59 : decode cX9_task 59 = .ok (.aload 4, 2) := by decide +kernel
theorem dX9_task_61 : decode cX9_task 61 = .ok (.iload 6, 2) := by decide +kernel
theorem dX9_task_63 : decode cX9_task 63 = .ok (.aload 5, 2) := by decide +kernel
theorem dX9_task_65 : decode cX9_task 65 = .ok (.iload 6, 2) := by decide +kernel
theorem dX9_task_67 : decode cX9_task 67 = .ok (.invokestatic 134, 3) := by decide +kernel
theorem dX9_task_70 : decode cX9_task 70 = .ok (.bastore, 1) := by decide +kernel
theorem dX9_task_71 : decode cX9_task 71 = .ok (.iinc 6 1, 3) := by decide +kernel
theorem dX9_task_74 : decode cX9_task 74 = .ok (.goto (-23), 3) := by decide +kernel
theorem dX9_task_77 : decode cX9_task 77 = .ok (.iconst 0, 1) := by decide +kernel
theorem dX9_task_78 : decode cX9_task 78 = .ok (.iload_n 2, 1) := by decide +kernel
theorem dX9_task_79 : decode cX9_task 79 = .ok (.aload 4, 2) := by decide +kernel
theorem dX9_task_81 : decode cX9_task 81 = .ok (.invokestatic 138, 3) := by decide +kernel
theorem dX9_task_84 : decode cX9_task 84 = .ok (.astore 6, 2) := by decide +kernel
theorem dX9_task_86 : decode cX9_task 86 = .ok (.aload_n 0, 1) := by decide +kernel
theorem dX9_task_87 : decode cX9_task 87 = .ok (.getfield 17, 3) := by decide +kernel
theorem dX9_task_90 : decode cX9_task 90 = .ok (.iload_n 1, 1) := by decide +kernel
theorem dX9_task_91 : decode cX9_task 91 = .ok (.aload 6, 2) := by decide +kernel
theorem dX9_task_93 : decode cX9_task 93 = .ok (.aastore, 1) := by decide +kernel
theorem dX9_task_94 : decode cX9_task 94 = .ok (.aload 6, 2) := by decide +kernel
theorem dX9_task_96 : decode cX9_task 96 = .ok (.iconst 2, 1) := by decide +kernel
theorem dX9_task_97 : decode cX9_task 97 = .ok (.invokevirtual 142, 3) := by decide +kernel
theorem dX9_task_100 : decode cX9_task 100 = .ok (.ireturn, 1) := by decide +kernel
theorem yd_X9_task : yX9_task.cls = RX9 ∧ yX9_task.cls ≠ "java/lang/invoke/MethodHandle" ∧ yX9_task.cls ≠ "java/lang/invoke/VarHandle" ∧ (parseMethodDescriptor yX9_task.desc).map (fun d => d.parameters.length) = some 3 := by decide +kernel
abbrev rmX9_task : Room := { frames := 3, cells := 2, slots := 260, locals := 70 }
def fX9_task_L51 (o : Nat) (z : CS) (l1 : Int32) (l2 : Int32) (l4 : Nat) (l5 : Nat) (l6 : Int32) : Option ((Int32 × CS) ⊕ CS) :=
  (lnB z l4).bind fun v10 =>
  if v10 ≤ l6 then
    some (.inr z)
  else
    (fX9_saidBy o z l5 l6).bind fun q11 =>
    (stB o z l4 l6 q11).bind fun z12 =>
    some (.inl ((l6 + (1 : Int32)), z12))
def fX9_task_J77 (o : Nat) (z : CS) (l1 : Int32) (l2 : Int32) (l4 : Nat) : Option (Int32 × CS) :=
  (fX9_plainTask o z (0 : Int32) l2 l4).bind fun q6 =>
  (stQT q6.2 1 l1 (some q6.1)).bind fun z7 =>
  (dT z7 q6.1).bind fun t9 =>
  (fX8_howMany o z7 q6.1 (2 : Int32)).bind fun q8 =>
  some (q8, z7)
def fX9_task_J25 (o : Nat) (z : CS) : Option (Int32 × CS) :=
  some ((-2 : Int32), z)
def fX9_task (o : Nat) (z : CS) (a1 : Int32) (a2 : Int32) (a3 : Int32) : Option (Int32 × CS) :=
  (fX9_isPlace a1).bind fun q1 =>
  if q1 = 0 then
    fX9_task_J25 o z
  else
    (fX9_isSheet a3).bind fun q2 =>
    if q2 = 0 then
      fX9_task_J25 o z
    else
      if a2 < (1 : Int32) then
        fX9_task_J25 o z
      else
        if a2 ≤ (8 : Int32) then
          (alB o z ((1 : Int32) <<< (a2 &&& 31))).bind fun u3 =>
          (aQ 6 (u3.2.2.2.1 0) a3).bind fun v4 =>
          qc v4
            (
              fX9_task_J77 o u3.2 a1 a2 u3.1
            )
            (fun ad5 =>
              (lpN (fun u => fX9_task_L51 o u.2 a1 a2 u3.1 ad5 u.1) bigN ((0 : Int32), u3.2)).bind fun e13 =>
              fX9_task_J77 o e13 a1 a2 u3.1
            )
        else
          fX9_task_J25 o z
set_option maxHeartbeats 4000000 in
set_option maxRecDepth 100000 in
theorem tX9_task_L51 {κ : KK} {p : Program} {l : Launch} {e : Env} {s : State} {m : MethodId} {args : Array Value} {below : List Frame} {meth : Method} {c : Code} (C : Cx κ p s m args meth c cX9_task 7 RX9 (some .int)) {o : Nat} {v : Option Value} {B' : Heap → Prop} {z : CS} {l1 : Int32} {l2 : Int32} {l4 : Nat} {l5 : Nat} {l6 : Int32} {y : (Int32 × CS) ⊕ CS} (h : fX9_task_L51 o z l1 l2 l4 l5 l6 = some y) (kc : ∀ u, y = .inl u → GC κ p l e s m args below meth c rmX9_task 7 o v B' 1 256 u.2 51 [(0, .ref o), (1, .int l1), (2, .int l2), (4, .ref l4), (5, .ref l5), (6, .int u.1)] []) (kx : ∀ w, y = .inr w → GC κ p l e s m args below meth c rmX9_task 7 o v B' 1 256 w 77 [(0, .ref o), (1, .int l1), (2, .int l2), (4, .ref l4)] []) : GC κ p l e s m args below meth c rmX9_task 7 o v B' 1 256 z 51 [(0, .ref o), (1, .int l1), (2, .int l2), (4, .ref l4), (5, .ref l5), (6, .int l6)] [] := by
  unfold fX9_task_L51 at h
  refine G_iload (pc' := 53) C dX9_task_51 5 rfl rfl ?_
  refine G_aload (pc' := 55) C dX9_task_53 3 rfl rfl ?_
  replace h := ob h
  obtain ⟨v10, hv10, h⟩ := h
  refine P_lenB (pc' := 56) C dX9_task_55 hv10 rfl ?_
  refine G_icmp_ge (tgt := 77) (pc' := 59) C dX9_task_56 (by decide) rfl (fun hc => ?_) (fun hc => ?_)
  · replace h := z_ip hc h
    exact G_sub (lv' := [(0, .ref o), (1, .int l1), (2, .int l2), (4, .ref l4)]) [0, 1, 2, 3] rfl (kx _ (Option.some.inj h).symm)
  · replace h := z_in hc h
    refine G_aload (pc' := 61) C dX9_task_59 3 rfl rfl ?_
    refine G_iload (pc' := 63) C dX9_task_61 5 rfl rfl ?_
    refine G_aload (pc' := 65) C dX9_task_63 4 rfl rfl ?_
    refine G_iload (pc' := 67) C dX9_task_65 5 rfl rfl ?_
    replace h := ob h
    obtain ⟨q11, hq11, h⟩ := h
    refine G_cS0 (pc' := 70) C dX9_task_67 (tX9_saidBy κ l o z l5 l6 q11 hq11) (wS tw_ml_X9_134 tw_st_X9_saidBy tw_co_X9_saidBy tw_in_X9) yd_X9_saidBy rfl rfl rfl (by decide) rfl (Nat.le_of_ble_eq_true rfl) rfl rfl ?_
    replace h := ob h
    obtain ⟨z12, hz12, h⟩ := h
    refine P_bast (pc' := 71) C dX9_task_70 hz12 rfl ?_
    refine G_iinc (pc' := 74) C dX9_task_71 5 rfl rfl [(6, .int (l6 + (1 : Int32))), (0, .ref o), (1, .int l1), (2, .int l2), (4, .ref l4), (5, .ref l5)] (by decide) rfl rfl ?_
    refine G_goto (tgt := 51) C dX9_task_74 (by decide) ?_
    exact G_sub (lv' := [(0, .ref o), (1, .int l1), (2, .int l2), (4, .ref l4), (5, .ref l5), (6, .int (l6 + (1 : Int32)))]) [1, 2, 3, 4, 5, 0] rfl (kc ((l6 + (1 : Int32)), z12) (Option.some.inj h).symm)
set_option maxHeartbeats 4000000 in
set_option maxRecDepth 100000 in
theorem tX9_task (κ : KK) (l : Launch) (o : Nat) (z : CS) (a1 : Int32) (a2 : Int32) (a3 : Int32) (q : Int32 × CS) (h : fX9_task o z a1 a2 a3 = some q) : MM κ l yX9_task cX9_task 7 (some .int) rmX9_task (CA o) [.ref o, .int a1, .int a2, .int a3] (CB κ o z) (some (Value.int q.1)) (CB κ o q.2) := by
  refine MM.of (by decide +kernel) (Nat.le_of_ble_eq_true rfl) ?_
  intro p e s m below meth c C hnm
  have J77 : ∀ (z : CS) (l1 : Int32) (l2 : Int32) (l4 : Nat), fX9_task_J77 o z l1 l2 l4 = some q → GC κ p l e s m ([.ref o, .int a1, .int a2, .int a3] : List Value).toArray below meth c rmX9_task 7 o (some (Value.int q.1)) (CB κ o q.2) 1 256 z 77 [(0, .ref o), (1, .int l1), (2, .int l2), (4, .ref l4)] [] := by
    intro z l1 l2 l4 h
    unfold fX9_task_J77 at h
    refine G_iconst (pc' := 78) (v := (0 : Int32)) C dX9_task_77 (by decide) rfl ?_
    refine G_iload_n (pc' := 79) C dX9_task_78 2 rfl rfl ?_
    refine G_aload (pc' := 81) C dX9_task_79 3 rfl rfl ?_
    replace h := ob h
    obtain ⟨q6, hq6, h⟩ := h
    refine G_cS (pc' := 84) C dX9_task_81 (tX9_plainTask κ l o z (0 : Int32) l2 l4 q6 hq6) (wS tw_ml_X9_138 tw_st_X9_plainTask tw_co_X9_plainTask tw_in_X9) yd_X9_plainTask rfl (by decide) rfl (Nat.le_of_ble_eq_true rfl) rfl rfl ?_
    refine G_astore (pc' := 86) C dX9_task_84 [(6, .ref q6.1), (0, .ref o), (1, .int l1), (2, .int l2), (4, .ref l4)] (by decide) rfl rfl ?_
    refine G_aload_n (pc' := 87) C dX9_task_86 1 rfl rfl ?_
    refine G_get (pc' := 90) (k := 1) C fi_X9 dX9_task_87 tw_fl_X9_17 rfl (by decide) (CB_rd 0 rfl) rfl rfl ?_
    refine G_iload_n (pc' := 91) C dX9_task_90 2 rfl rfl ?_
    refine G_aload (pc' := 93) C dX9_task_91 0 rfl rfl ?_
    replace h := ob h
    obtain ⟨z7, hz7, h⟩ := h
    refine C_q_places (pc' := 94) (x := (some q6.1)) C dX9_task_93 hz7 rfl ?_
    refine G_aload (pc' := 96) C dX9_task_94 0 rfl rfl ?_
    refine G_iconst (pc' := 97) (v := (2 : Int32)) C dX9_task_96 (by decide) rfl ?_
    replace h := ob h
    obtain ⟨t9, ht9, h⟩ := h
    replace h := ob h
    obtain ⟨q8, hq8, h⟩ := h
    refine G_cV0 (pc' := 100) C dX9_task_97 (tX8_howMany κ l o z7 q6.1 (2 : Int32) q8 hq8) (wV tw_ml_X9_142 tw_im_X8_howMany tw_se_X8_X8_howMany tw_in_X8 tw_co_X8_howMany) yd_X8_howMany rfl fi_X8 (CB_T ht9) rfl rfl (by decide) rfl (Nat.le_of_ble_eq_true rfl) rfl rfl ?_
    refine G_widen (k := rmX9_task.cells) (n := rmX9_task.slots) (by decide) (by decide) ?_
    obtain rfl := Option.some.inj h
    exact G_iret C dX9_task_100 (fun _ h => h)
  have J25 : ∀ (z : CS), fX9_task_J25 o z = some q → GC κ p l e s m ([.ref o, .int a1, .int a2, .int a3] : List Value).toArray below meth c rmX9_task 7 o (some (Value.int q.1)) (CB κ o q.2) 0 0 z 25 [] [] := by
    intro z h
    unfold fX9_task_J25 at h
    refine G_bipush (pc' := 27) (v := (-2 : Int32)) C dX9_task_25 (by decide) rfl ?_
    refine G_widen (k := rmX9_task.cells) (n := rmX9_task.slots) (by decide) (by decide) ?_
    obtain rfl := Option.some.inj h
    exact G_iret C dX9_task_27 (fun _ h => h)
  unfold fX9_task at h
  refine G_sub (lv' := [(0, .ref o), (1, .int a1), (2, .int a2), (3, .int a3)]) [0, 1, 2, 3] rfl ?_
  refine G_iload_n (pc' := 1) C dX9_task_0 1 rfl rfl ?_
  replace h := ob h
  obtain ⟨q1, hq1, h⟩ := h
  refine G_cS0 (pc' := 4) C dX9_task_1 (tX9_isPlace κ l (CA o) (CB κ o z) a1 q1 hq1) (wS tw_ml_X9_131 tw_st_X9_isPlace tw_co_X9_isPlace tw_in_X9) yd_X9_isPlace rfl rfl rfl (by decide) rfl (Nat.le_of_ble_eq_true rfl) rfl rfl ?_
  refine G_if_eq (tgt := 25) (pc' := 7) C dX9_task_4 (by decide) rfl (fun hc => ?_) (fun hc => ?_)
  · replace h := z_ip hc h
    exact G_sub (lv' := []) [] rfl (J25 z h)
  · replace h := z_in hc h
    refine G_iload_n (pc' := 8) C dX9_task_7 3 rfl rfl ?_
    replace h := ob h
    obtain ⟨q2, hq2, h⟩ := h
    refine G_cS0 (pc' := 11) C dX9_task_8 (tX9_isSheet κ l (CA o) (CB κ o z) a3 q2 hq2) (wS tw_ml_X9_96 tw_st_X9_isSheet tw_co_X9_isSheet tw_in_X9) yd_X9_isSheet rfl rfl rfl (by decide) rfl (Nat.le_of_ble_eq_true rfl) rfl rfl ?_
    refine G_if_eq (tgt := 25) (pc' := 14) C dX9_task_11 (by decide) rfl (fun hc => ?_) (fun hc => ?_)
    · replace h := z_ip hc h
      exact G_sub (lv' := []) [] rfl (J25 z h)
    · replace h := z_in hc h
      refine G_iload_n (pc' := 15) C dX9_task_14 2 rfl rfl ?_
      refine G_iconst (pc' := 16) (v := (1 : Int32)) C dX9_task_15 (by decide) rfl ?_
      refine G_icmp_lt (tgt := 25) (pc' := 19) C dX9_task_16 (by decide) rfl (fun hc => ?_) (fun hc => ?_)
      · replace h := z_ip hc h
        exact G_sub (lv' := []) [] rfl (J25 z h)
      · replace h := z_in hc h
        refine G_iload_n (pc' := 20) C dX9_task_19 2 rfl rfl ?_
        refine G_bipush (pc' := 22) (v := (8 : Int32)) C dX9_task_20 (by decide) rfl ?_
        refine G_icmp_le (tgt := 28) (pc' := 25) C dX9_task_22 (by decide) rfl (fun hc => ?_) (fun hc => ?_)
        · replace h := z_ip hc h
          refine G_iconst (pc' := 29) (v := (1 : Int32)) C dX9_task_28 (by decide) rfl ?_
          refine G_iload_n (pc' := 30) C dX9_task_29 2 rfl rfl ?_
          refine G_ishl (pc' := 31) C dX9_task_30 rfl ?_
          replace h := ob h
          obtain ⟨u3, hu3, h⟩ := h
          refine P_newB (pc' := 33) C dX9_task_31 hu3 (by decide) rfl ?_
          refine G_astore (pc' := 35) C dX9_task_33 [(4, .ref u3.1), (0, .ref o), (1, .int a1), (2, .int a2), (3, .int a3)] (by decide) rfl rfl ?_
          refine G_aload_n (pc' := 36) C dX9_task_35 1 rfl rfl ?_
          refine G_get (pc' := 39) (k := 0) C fi_X9 dX9_task_36 tw_fl_X9_11 rfl (by decide) (CB_rd 0 rfl) rfl rfl ?_
          refine G_iload_n (pc' := 40) C dX9_task_39 4 rfl rfl ?_
          replace h := ob h
          obtain ⟨v4, hv4, h⟩ := h
          refine G_aald4V (pc' := 41) C dX9_task_40 (CB_rd 1 rfl) hv4 rfl ?_
          refine G_qstore (pc' := 43) C dX9_task_41 [(5, va_rf v4), (4, .ref u3.1), (0, .ref o), (1, .int a1), (2, .int a2), (3, .int a3)] (by decide) rfl rfl ?_
          refine G_qload (pc' := 45) C dX9_task_43 0 rfl rfl ?_
          refine G_ifnull (tgt := 77) (pc' := 48) C dX9_task_45 (by decide) rfl (fun hc => ?_) (fun ad5 hc => ?_)
          · replace h := z_qn hc h
            exact G_sub (lv' := [(0, .ref o), (1, .int a1), (2, .int a2), (4, .ref u3.1)]) [2, 3, 4, 1] rfl (J77 u3.2 a1 a2 u3.1 h)
          · replace h := z_qs hc h
            subst hc
            refine G_iconst (pc' := 49) (v := (0 : Int32)) C dX9_task_48 (by decide) rfl ?_
            refine G_istore (pc' := 51) C dX9_task_49 [(6, .int (0 : Int32)), (5, .ref ad5), (4, .ref u3.1), (0, .ref o), (1, .int a1), (2, .int a2), (3, .int a3)] (by decide) rfl rfl ?_
            replace h := ob h
            obtain ⟨e13, hle13, h⟩ := h
            refine G_sub (lv' := [(0, .ref o), (1, .int a1), (2, .int a2), (4, .ref u3.1), (5, .ref ad5), (6, .int (0 : Int32))]) [3, 4, 5, 2, 1, 0] rfl ?_
            refine lpN_ind (body := fun u => fX9_task_L51 o u.2 a1 a2 u3.1 ad5 u.1) (P := fun u => GC κ p l e s m ([.ref o, .int a1, .int a2, .int a3] : List Value).toArray below meth c rmX9_task 7 o (some (Value.int q.1)) (CB κ o q.2) 1 256 u.2 51 [(0, .ref o), (1, .int a1), (2, .int a2), (4, .ref u3.1), (5, .ref ad5), (6, .int u.1)] []) (X := fun w => GC κ p l e s m ([.ref o, .int a1, .int a2, .int a3] : List Value).toArray below meth c rmX9_task 7 o (some (Value.int q.1)) (CB κ o q.2) 1 256 w 77 [(0, .ref o), (1, .int a1), (2, .int a2), (4, .ref u3.1)] []) (fun u y hb kc kx => tX9_task_L51 C hb kc kx) _ _ _ hle13 ?_
            exact G_sub (lv' := [(0, .ref o), (1, .int a1), (2, .int a2), (4, .ref u3.1)]) [0, 1, 2, 3] rfl (J77 e13 a1 a2 u3.1 h)
        · replace h := z_in hc h
          exact G_sub (lv' := []) [] rfl (J25 z h)
