theorem dX1_weigh_0 : decode cX1_weigh 0 = .ok (.aload_n 0, 1) := by decide +kernel
theorem dX1_weigh_1 : decode cX1_weigh 1 = .ok (.getfield 19, 3) := by decide +kernel
theorem dX1_weigh_4 : decode cX1_weigh 4 = .ok (.aload_n 1, 1) := by decide +kernel
theorem dX1_weigh_5 : decode cX1_weigh 5 = .ok (.if_acmp .ne 12, 3) := by decide +kernel
theorem dX1_weigh_8 : decode cX1_weigh 8 = .ok (.aload_n 0, 1) := by decide +kernel
theorem dX1_weigh_9 : decode cX1_weigh 9 = .ok (.getfield 23, 3) := by decide +kernel
theorem dX1_weigh_12 : decode cX1_weigh 12 = .ok (.iload_n 2, 1) := by decide +kernel
theorem dX1_weigh_13 : decode cX1_weigh 13 = .ok (.if_icmp .ne 4, 3) := by decide +kernel
theorem dX1_weigh_16 : decode cX1_weigh 16 = .ok (.return_, 1) := by decide +kernel
theorem dX1_weigh_17 : decode cX1_weigh 17 = .ok (.aload_n 0, 1) := by decide +kernel
theorem dX1_weigh_18 : decode cX1_weigh 18 = .ok (.aload_n 1, 1) := by decide +kernel
theorem dX1_weigh_19 : decode cX1_weigh 19 = .ok (.putfield 19, 3) := by decide +kernel
theorem dX1_weigh_22 : decode cX1_weigh 22 = .ok (.aload_n 0, 1) := by decide +kernel
theorem dX1_weigh_23 : decode cX1_weigh 23 = .ok (.iload_n 2, 1) := by decide +kernel
theorem dX1_weigh_24 : decode cX1_weigh 24 = .ok (.putfield 23, 3) := by decide +kernel
theorem dX1_weigh_27 : decode cX1_weigh 27 = .ok (.aload_n 0, 1) := by decide +kernel
theorem dX1_weigh_28 : decode cX1_weigh 28 = .ok (.aload_n 1, 1) := by decide +kernel
theorem dX1_weigh_29 : decode cX1_weigh 29 = .ok (.getfield 27, 3) := by decide +kernel
theorem dX1_weigh_32 : decode cX1_weigh 32 = .ok (.invokestatic 33, 3) := by decide +kernel
theorem dX1_weigh_35 : decode cX1_weigh 35 = .ok (.iconst 1, 1) := by decide +kernel
theorem dX1_weigh_36 : decode cX1_weigh 36 = .ok (.isub, 1) := by decide +kernel
theorem dX1_weigh_37 : decode cX1_weigh 37 = .ok (.putfield 37, 3) := by decide +kernel
theorem dX1_weigh_40 : decode cX1_weigh 40 = .ok (.iconst 0, 1) := by decide +kernel
theorem dX1_weigh_41 : decode cX1_weigh 41 = .ok (.istore_n 3, 1) := by decide +kernel
theorem dX1_weigh_42 : decode cX1_weigh 42 = .ok (.iload_n 3, 1) := by decide +kernel
theorem dX1_weigh_43 : decode cX1_weigh 43 = .ok (.aload_n 0, 1) := by decide +kernel
theorem dX1_weigh_44 : decode cX1_weigh 44 = .ok (.getfield 37, 3) := by decide +kernel
theorem dX1_weigh_47 : decode cX1_weigh 47 = .ok (.if_icmp .gt 14, 3) := by decide +kernel
theorem dX1_weigh_50 : decode cX1_weigh 50 = .ok (.aload_n 0, 1) := by decide +kernel
theorem dX1_weigh_51 : decode cX1_weigh 51 = .ok (.iload_n 3, 1) := by decide +kernel
theorem dX1_weigh_52 : decode cX1_weigh 52 = .ok (.invokevirtual 40, 3) := by decide +kernel
theorem dX1_weigh_55 : decode cX1_weigh 55 = .ok (.iinc 3 1, 3) := by decide +kernel
theorem dX1_weigh_58 : decode cX1_weigh 58 = .ok (.goto (-16), 3) := by decide +kernel
theorem dX1_weigh_61 : decode cX1_weigh 61 = .ok (.return_, 1) := by decide +kernel
theorem yd_X1_weigh : yX1_weigh.cls = RX1 ∧ yX1_weigh.cls ≠ "java/lang/invoke/MethodHandle" ∧ yX1_weigh.cls ≠ "java/lang/invoke/VarHandle" ∧ (parseMethodDescriptor yX1_weigh.desc).map (fun d => d.parameters.length) = some 2 := by decide +kernel
abbrev rmX1_weigh_5 : Room := { frames := 3, cells := 0, slots := 0, locals := 76 }
def fX1_weigh_5_L42 (o : Nat) (z : CS) (l3 : Int32) : Option ((Int32 × CS) ⊕ CS) :=
  if (z.1 5) < l3 then
    some (.inr z)
  else
    (fX1_weighOne_5 o z l3).bind fun q4 =>
    some (.inl ((l3 + (1 : Int32)), q4))
def fX1_weigh_5_J17 (o : Nat) (z : CS) (l1 : Nat) (l2 : Int32) : Option (CS) :=
  (zI l2).bind fun b1 =>
  (dT (cI (cW z 0 (some l1)) 4 l2) l1).bind fun t2 =>
  (fX1_powerOf t2.2.1).bind fun q3 =>
  (lpN (fun u => fX1_weigh_5_L42 o u.2 u.1) bigN ((0 : Int32), (cI (cI (cW z 0 (some l1)) 4 l2) 5 (q3 - (1 : Int32))))).bind fun e5 =>
  some e5
def fX1_weigh_5 (o : Nat) (z : CS) (a1 : Nat) (a2 : Int32) : Option (CS) :=
  if (z.2.2.2.1 0) = (some a1) then
    if (z.1 4) = a2 then
      some z
    else
      fX1_weigh_5_J17 o z a1 a2
  else
    fX1_weigh_5_J17 o z a1 a2
set_option maxHeartbeats 4000000 in
set_option maxRecDepth 100000 in
theorem tX1_weigh_5_L42 {κ : KK} {p : Program} {l : Launch} {e : Env} {s : State} {m : MethodId} {args : Array Value} {below : List Frame} {meth : Method} {c : Code} (C : Cx κ p s m args meth c cX1_weigh 4 RX1 none) {o : Nat} {v : Option Value} {B' : Heap → Prop} {z : CS} {l3 : Int32} {y : (Int32 × CS) ⊕ CS} (h : fX1_weigh_5_L42 o z l3 = some y) (kc : ∀ u, y = .inl u → GC κ p l e s m args below meth c rmX1_weigh_5 4 o v B' 0 0 u.2 42 [(0, .ref (o + 5)), (3, .int u.1)] []) (kx : ∀ w, y = .inr w → GC κ p l e s m args below meth c rmX1_weigh_5 4 o v B' 0 0 w 61 [] []) : GC κ p l e s m args below meth c rmX1_weigh_5 4 o v B' 0 0 z 42 [(0, .ref (o + 5)), (3, .int l3)] [] := by
  unfold fX1_weigh_5_L42 at h
  refine G_iload_n (pc' := 43) C dX1_weigh_42 1 rfl rfl ?_
  refine G_aload_n (pc' := 44) C dX1_weigh_43 0 rfl rfl ?_
  refine G_get (pc' := 47) (k := 4) C fi_X1 dX1_weigh_44 tw_fl_X1_37 rfl (by decide) (CB_rd 5 rfl) rfl rfl ?_
  refine G_icmp_gt (tgt := 61) (pc' := 50) C dX1_weigh_47 (by decide) rfl (fun hc => ?_) (fun hc => ?_)
  · replace h := z_ip hc h
    exact G_sub (lv' := []) [] rfl (kx _ (Option.some.inj h).symm)
  · replace h := z_in hc h
    refine G_aload_n (pc' := 51) C dX1_weigh_50 0 rfl rfl ?_
    refine G_iload_n (pc' := 52) C dX1_weigh_51 1 rfl rfl ?_
    replace h := ob h
    obtain ⟨q4, hq4, h⟩ := h
    refine G_cV0 (pc' := 55) C dX1_weigh_52 (tX1_weighOne_5 κ l o z l3 q4 hq4) (wV tw_ml_X1_40 tw_im_X1_weighOne tw_se_X1_X1_weighOne tw_in_X1 tw_co_X1_weighOne) yd_X1_weighOne rfl fi_X1 (CB_rd 5 rfl) rfl rfl (by decide) rfl (Nat.le_of_ble_eq_true rfl) rfl rfl ?_
    refine G_iinc (pc' := 58) C dX1_weigh_55 1 rfl rfl [(3, .int (l3 + (1 : Int32))), (0, .ref (o + 5))] (by decide) rfl rfl ?_
    refine G_goto (tgt := 42) C dX1_weigh_58 (by decide) ?_
    exact G_sub (lv' := [(0, .ref (o + 5)), (3, .int (l3 + (1 : Int32)))]) [1, 0] rfl (kc ((l3 + (1 : Int32)), q4) (Option.some.inj h).symm)
set_option maxHeartbeats 4000000 in
set_option maxRecDepth 100000 in
theorem tX1_weigh_5 (κ : KK) (l : Launch) (o : Nat) (z : CS) (a1 : Nat) (a2 : Int32) (q : CS) (h : fX1_weigh_5 o z a1 a2 = some q) : MM κ l yX1_weigh cX1_weigh 4 none rmX1_weigh_5 (CA o) [.ref (o + 5), .ref a1, .int a2] (CB κ o z) none (CB κ o q) := by
  refine MM.of (by decide +kernel) (Nat.le_of_ble_eq_true rfl) ?_
  intro p e s m below meth c C hnm
  have J17 : ∀ (z : CS) (l1 : Nat) (l2 : Int32), fX1_weigh_5_J17 o z l1 l2 = some q → GC κ p l e s m ([.ref (o + 5), .ref a1, .int a2] : List Value).toArray below meth c rmX1_weigh_5 4 o none (CB κ o q) 0 0 z 17 [(0, .ref (o + 5)), (1, .ref l1), (2, .int l2)] [] := by
    intro z l1 l2 h
    unfold fX1_weigh_5_J17 at h
    refine G_aload_n (pc' := 18) C dX1_weigh_17 0 rfl rfl ?_
    refine G_aload_n (pc' := 19) C dX1_weigh_18 1 rfl rfl ?_
    refine G_put (pc' := 22) (k := 2) C fi_X1 dX1_weigh_19 tw_fl_X1_19 rfl (by decide) rfl rfl rfl (Nat.le_of_ble_eq_true rfl) (CB_rd 5 rfl) (CB_wr (cW z 0 (some l1)) 5 (by decide) rfl rfl) rfl ?_
    refine G_aload_n (pc' := 23) C dX1_weigh_22 0 rfl rfl ?_
    refine G_iload_n (pc' := 24) C dX1_weigh_23 2 rfl rfl ?_
    replace h := ob h
    obtain ⟨b1, hb1, h⟩ := h
    obtain ⟨rfl, hz1, hz2⟩ := zI_s hb1
    refine G_put (pc' := 27) (k := 3) C fi_X1 dX1_weigh_24 tw_fl_X1_23 rfl (by decide) rfl hz1 hz2 (Nat.le_of_ble_eq_true rfl) (CB_rd 5 rfl) (CB_wr (cI (cW z 0 (some l1)) 4 l2) 5 (by decide) rfl rfl) rfl ?_
    refine G_aload_n (pc' := 28) C dX1_weigh_27 0 rfl rfl ?_
    refine G_aload_n (pc' := 29) C dX1_weigh_28 1 rfl rfl ?_
    replace h := ob h
    obtain ⟨t2, ht2, h⟩ := h
    refine G_get (pc' := 32) (k := 1) C fi_X8 dX1_weigh_29 tw_fl_X1_27 rfl (by decide) (CB_T ht2) rfl rfl ?_
    replace h := ob h
    obtain ⟨q3, hq3, h⟩ := h
    refine G_cS0 (pc' := 35) C dX1_weigh_32 (tX1_powerOf κ l (CA o) (CB κ o (cI (cW z 0 (some l1)) 4 l2)) t2.2.1 q3 hq3) (wS tw_ml_X1_33 tw_st_X1_powerOf tw_co_X1_powerOf tw_in_X1) yd_X1_powerOf rfl rfl rfl (by decide) rfl (Nat.le_of_ble_eq_true rfl) rfl rfl ?_
    refine G_iconst (pc' := 36) (v := (1 : Int32)) C dX1_weigh_35 (by decide) rfl ?_
    refine G_isub (pc' := 37) C dX1_weigh_36 rfl ?_
    refine G_put (pc' := 40) (k := 4) C fi_X1 dX1_weigh_37 tw_fl_X1_37 rfl (by decide) rfl rfl rfl (Nat.le_of_ble_eq_true rfl) (CB_rd 5 rfl) (CB_wr (cI (cI (cW z 0 (some l1)) 4 l2) 5 (q3 - (1 : Int32))) 5 (by decide) rfl rfl) rfl ?_
    refine G_iconst (pc' := 41) (v := (0 : Int32)) C dX1_weigh_40 (by decide) rfl ?_
    refine G_istore_n (pc' := 42) C dX1_weigh_41 [(3, .int (0 : Int32)), (0, .ref (o + 5)), (1, .ref l1), (2, .int l2)] (by decide) rfl rfl ?_
    replace h := ob h
    obtain ⟨e5, hle5, h⟩ := h
    refine G_sub (lv' := [(0, .ref (o + 5)), (3, .int (0 : Int32))]) [1, 0] rfl ?_
    refine lpN_ind (body := fun u => fX1_weigh_5_L42 o u.2 u.1) (P := fun u => GC κ p l e s m ([.ref (o + 5), .ref a1, .int a2] : List Value).toArray below meth c rmX1_weigh_5 4 o none (CB κ o q) 0 0 u.2 42 [(0, .ref (o + 5)), (3, .int u.1)] []) (X := fun w => GC κ p l e s m ([.ref (o + 5), .ref a1, .int a2] : List Value).toArray below meth c rmX1_weigh_5 4 o none (CB κ o q) 0 0 w 61 [] []) (fun u y hb kc kx => tX1_weigh_5_L42 C hb kc kx) _ _ _ hle5 ?_
    refine G_widen (k := rmX1_weigh_5.cells) (n := rmX1_weigh_5.slots) (by decide) (by decide) ?_
    obtain rfl := Option.some.inj h
    exact G_vret C dX1_weigh_61 (fun _ h => h)
  unfold fX1_weigh_5 at h
  refine G_sub (lv' := [(0, .ref (o + 5)), (1, .ref a1), (2, .int a2)]) [0, 1, 2] rfl ?_
  refine G_aload_n (pc' := 1) C dX1_weigh_0 0 rfl rfl ?_
  refine G_get (pc' := 4) (k := 2) C fi_X1 dX1_weigh_1 tw_fl_X1_19 rfl (by decide) (CB_rd 5 rfl) rfl rfl ?_
  refine G_aload_n (pc' := 5) C dX1_weigh_4 1 rfl rfl ?_
  refine G_acmp_ne (rx := (z.2.2.2.1 0)) (ry := (some a1)) (tgt := 17) (pc' := 8) C dX1_weigh_5 (by decide) rfl (fun hc => ?_) (fun hc => ?_)
  · replace h := z_in hc h
    exact G_sub (lv' := [(0, .ref (o + 5)), (1, .ref a1), (2, .int a2)]) [0, 1, 2] rfl (J17 z a1 a2 h)
  · replace h := z_ip hc h
    refine G_aload_n (pc' := 9) C dX1_weigh_8 0 rfl rfl ?_
    refine G_get (pc' := 12) (k := 3) C fi_X1 dX1_weigh_9 tw_fl_X1_23 rfl (by decide) (CB_rd 5 rfl) rfl rfl ?_
    refine G_iload_n (pc' := 13) C dX1_weigh_12 2 rfl rfl ?_
    refine G_icmp_ne (tgt := 17) (pc' := 16) C dX1_weigh_13 (by decide) rfl (fun hc => ?_) (fun hc => ?_)
    · replace h := z_in hc h
      exact G_sub (lv' := [(0, .ref (o + 5)), (1, .ref a1), (2, .int a2)]) [0, 1, 2] rfl (J17 z a1 a2 h)
    · replace h := z_ip hc h
      refine G_widen (k := rmX1_weigh_5.cells) (n := rmX1_weigh_5.slots) (by decide) (by decide) ?_
      obtain rfl := Option.some.inj h
      exact G_vret C dX1_weigh_16 (fun _ h => h)
theorem dX1_weightOfAll_0 : decode cX1_weightOfAll 0 = .ok (.aload_n 0, 1) := by decide +kernel
theorem dX1_weightOfAll_1 : decode cX1_weightOfAll 1 = .ok (.getfield 15, 3) := by decide +kernel
theorem dX1_weightOfAll_4 : decode cX1_weightOfAll 4 = .ok (.aload_n 0, 1) := by decide +kernel
theorem dX1_weightOfAll_5 : decode cX1_weightOfAll 5 = .ok (.getfield 37, 3) := by decide +kernel
theorem dX1_weightOfAll_8 : decode cX1_weightOfAll 8 = .ok (.iaload, 1) := by decide +kernel
theorem dX1_weightOfAll_9 : decode cX1_weightOfAll 9 = .ok (.ireturn, 1) := by decide +kernel
theorem yd_X1_weightOfAll : yX1_weightOfAll.cls = RX1 ∧ yX1_weightOfAll.cls ≠ "java/lang/invoke/MethodHandle" ∧ yX1_weightOfAll.cls ≠ "java/lang/invoke/VarHandle" ∧ (parseMethodDescriptor yX1_weightOfAll.desc).map (fun d => d.parameters.length) = some 0 := by decide +kernel
abbrev rmX1_weightOfAll_5 : Room := { frames := 0, cells := 0, slots := 0, locals := 0 }
def fX1_weightOfAll_5 (o : Nat) (z : CS) : Option (Int32) :=
  (aI 6561 (z.2.1 2) (z.1 5)).bind fun v1 =>
  some v1
set_option maxHeartbeats 4000000 in
set_option maxRecDepth 100000 in
theorem tX1_weightOfAll_5 (κ : KK) (l : Launch) (o : Nat) (z : CS) (q : Int32) (h : fX1_weightOfAll_5 o z = some q) : MM κ l yX1_weightOfAll cX1_weightOfAll 1 (some .int) rmX1_weightOfAll_5 (CA o) [.ref (o + 5)] (CB κ o z) (some (Value.int q)) (CB κ o z) := by
  refine MM.of (by decide +kernel) (Nat.le_of_ble_eq_true rfl) ?_
  intro p e s m below meth c C hnm
  unfold fX1_weightOfAll_5 at h
  refine G_sub (lv' := [(0, .ref (o + 5))]) [0] rfl ?_
  refine G_aload_n (pc' := 1) C dX1_weightOfAll_0 0 rfl rfl ?_
  refine G_get (pc' := 4) (k := 1) C fi_X1 dX1_weightOfAll_1 tw_fl_X1_15 rfl (by decide) (CB_rd 5 rfl) rfl rfl ?_
  refine G_aload_n (pc' := 5) C dX1_weightOfAll_4 0 rfl rfl ?_
  refine G_get (pc' := 8) (k := 4) C fi_X1 dX1_weightOfAll_5 tw_fl_X1_37 rfl (by decide) (CB_rd 5 rfl) rfl rfl ?_
  replace h := ob h
  obtain ⟨v1, hv1, h⟩ := h
  refine G_ialdV (pc' := 9) C dX1_weightOfAll_8 (CB_rd 7 rfl) hv1 rfl ?_
  obtain rfl := Option.some.inj h
  exact G_iret C dX1_weightOfAll_9 (fun _ h => h)
theorem dX9_weightOf_0 : decode cX9_weightOf 0 = .ok (.aload_n 0, 1) := by decide +kernel
theorem dX9_weightOf_1 : decode cX9_weightOf 1 = .ok (.iload_n 1, 1) := by decide +kernel
theorem dX9_weightOf_2 : decode cX9_weightOf 2 = .ok (.invokevirtual 145, 3) := by decide +kernel
theorem dX9_weightOf_5 : decode cX9_weightOf 5 = .ok (.istore_n 3, 1) := by decide +kernel
theorem dX9_weightOf_6 : decode cX9_weightOf 6 = .ok (.iload_n 3, 1) := by decide +kernel
theorem dX9_weightOf_7 : decode cX9_weightOf 7 = .ok (.ifCond .eq 5, 3) := by decide +kernel
theorem dX9_weightOf_10 : decode cX9_weightOf 10 = .ok (.iload_n 3, 1) := by decide +kernel
theorem dX9_weightOf_11 : decode cX9_weightOf 11 = .ok (.ireturn, 1) := by decide +kernel
theorem dX9_weightOf_12 : decode cX9_weightOf 12 = .ok (.aload_n 0, 1) := by decide +kernel
theorem dX9_weightOf_13 : decode cX9_weightOf 13 = .ok (.getfield 31, 3) := by decide +kernel
theorem dX9_weightOf_16 : decode cX9_weightOf 16 = .ok (.aload_n 0, 1) := by decide +kernel
theorem dX9_weightOf_17 : decode cX9_weightOf 17 = .ok (.getfield 17, 3) := by decide +kernel
theorem dX9_weightOf_20 : decode cX9_weightOf 20 = .ok (.iload_n 1, 1) := by decide +kernel
theorem dX9_weightOf_21 : decode cX9_weightOf 21 = .ok (.aaload, 1) := by decide +kernel
theorem dX9_weightOf_22 : decode cX9_weightOf 22 = .ok (.iload_n 2, 1) := by decide +kernel
theorem dX9_weightOf_23 : decode cX9_weightOf 23 = .ok (.invokevirtual 224, 3) := by decide +kernel
theorem dX9_weightOf_26 : decode cX9_weightOf 26 = .ok (.aload_n 0, 1) := by decide +kernel
theorem dX9_weightOf_27 : decode cX9_weightOf 27 = .ok (.getfield 31, 3) := by decide +kernel
theorem dX9_weightOf_30 : decode cX9_weightOf 30 = .ok (.invokevirtual 228, 3) := by decide +kernel
theorem dX9_weightOf_33 : decode cX9_weightOf 33 = .ok (.ireturn, 1) := by decide +kernel
theorem yd_X9_weightOf : yX9_weightOf.cls = RX9 ∧ yX9_weightOf.cls ≠ "java/lang/invoke/MethodHandle" ∧ yX9_weightOf.cls ≠ "java/lang/invoke/VarHandle" ∧ (parseMethodDescriptor yX9_weightOf.desc).map (fun d => d.parameters.length) = some 2 := by decide +kernel
abbrev rmX9_weightOf : Room := { frames := 4, cells := 0, slots := 0, locals := 99 }
def fX9_weightOf (o : Nat) (z : CS) (a1 : Int32) (a2 : Int32) : Option (Int32 × CS) :=
  (fX9_findingOfTask o z a1).bind fun q1 =>
  if q1.1 = 0 then
    (aQ 8 (q1.2.2.2.1 1) a1).bind fun v2 =>
    (v2).bind fun ad3 =>
    (fX1_weigh_5 o q1.2 ad3 a2).bind fun q4 =>
    (fX1_weightOfAll_5 o q4 ).bind fun q5 =>
    some (q5, q4)
  else
    some (q1.1, q1.2)
set_option maxHeartbeats 4000000 in
set_option maxRecDepth 100000 in
theorem tX9_weightOf (κ : KK) (l : Launch) (o : Nat) (z : CS) (a1 : Int32) (a2 : Int32) (q : Int32 × CS) (h : fX9_weightOf o z a1 a2 = some q) : MM κ l yX9_weightOf cX9_weightOf 4 (some .int) rmX9_weightOf (CA o) [.ref o, .int a1, .int a2] (CB κ o z) (some (Value.int q.1)) (CB κ o q.2) := by
  refine MM.of (by decide +kernel) (Nat.le_of_ble_eq_true rfl) ?_
  intro p e s m below meth c C hnm
  unfold fX9_weightOf at h
  refine G_sub (lv' := [(0, .ref o), (1, .int a1), (2, .int a2)]) [0, 1, 2] rfl ?_
  refine G_aload_n (pc' := 1) C dX9_weightOf_0 0 rfl rfl ?_
  refine G_iload_n (pc' := 2) C dX9_weightOf_1 1 rfl rfl ?_
  replace h := ob h
  obtain ⟨q1, hq1, h⟩ := h
  refine G_cV0 (pc' := 5) C dX9_weightOf_2 (tX9_findingOfTask κ l o z a1 q1 hq1) (wV tw_ml_X9_145 tw_im_X9_findingOfTask tw_se_X9_X9_findingOfTask tw_in_X9 tw_co_X9_findingOfTask) yd_X9_findingOfTask rfl fi_X9 (CB_rd 0 rfl) rfl rfl (by decide) rfl (Nat.le_of_ble_eq_true rfl) rfl rfl ?_
  refine G_istore_n (pc' := 6) C dX9_weightOf_5 [(3, .int q1.1), (0, .ref o), (1, .int a1), (2, .int a2)] (by decide) rfl rfl ?_
  refine G_iload_n (pc' := 7) C dX9_weightOf_6 0 rfl rfl ?_
  refine G_if_eq (tgt := 12) (pc' := 10) C dX9_weightOf_7 (by decide) rfl (fun hc => ?_) (fun hc => ?_)
  · replace h := z_ip hc h
    refine G_aload_n (pc' := 13) C dX9_weightOf_12 1 rfl rfl ?_
    refine G_get (pc' := 16) (k := 4) C fi_X9 dX9_weightOf_13 tw_fl_X9_31 rfl (by decide) (CB_rd 0 rfl) rfl rfl ?_
    refine G_aload_n (pc' := 17) C dX9_weightOf_16 1 rfl rfl ?_
    refine G_get (pc' := 20) (k := 1) C fi_X9 dX9_weightOf_17 tw_fl_X9_17 rfl (by decide) (CB_rd 0 rfl) rfl rfl ?_
    refine G_iload_n (pc' := 21) C dX9_weightOf_20 2 rfl rfl ?_
    replace h := ob h
    obtain ⟨v2, hv2, h⟩ := h
    refine G_aald5V (pc' := 22) C dX9_weightOf_21 (CB_rd 2 rfl) hv2 rfl ?_
    refine G_iload_n (pc' := 23) C dX9_weightOf_22 3 rfl rfl ?_
    replace h := ob h
    obtain ⟨ad3, had3, h⟩ := h
    subst had3
    replace h := ob h
    obtain ⟨q4, hq4, h⟩ := h
    refine G_cV0 (pc' := 26) C dX9_weightOf_23 (tX1_weigh_5 κ l o q1.2 ad3 a2 q4 hq4) (wV tw_ml_X9_224 tw_im_X1_weigh tw_se_X1_X1_weigh tw_in_X1 tw_co_X1_weigh) yd_X1_weigh rfl fi_X1 (CB_rd 5 rfl) rfl rfl (by decide) rfl (Nat.le_of_ble_eq_true rfl) rfl rfl ?_
    refine G_aload_n (pc' := 27) C dX9_weightOf_26 1 rfl rfl ?_
    refine G_get (pc' := 30) (k := 4) C fi_X9 dX9_weightOf_27 tw_fl_X9_31 rfl (by decide) (CB_rd 0 rfl) rfl rfl ?_
    replace h := ob h
    obtain ⟨q5, hq5, h⟩ := h
    refine G_cV0 (pc' := 33) C dX9_weightOf_30 (tX1_weightOfAll_5 κ l o q4  q5 hq5) (wV tw_ml_X9_228 tw_im_X1_weightOfAll tw_se_X1_X1_weightOfAll tw_in_X1 tw_co_X1_weightOfAll) yd_X1_weightOfAll rfl fi_X1 (CB_rd 5 rfl) rfl rfl (by decide) rfl (Nat.le_of_ble_eq_true rfl) rfl rfl ?_
    refine G_widen (k := rmX9_weightOf.cells) (n := rmX9_weightOf.slots) (by decide) (by decide) ?_
    obtain rfl := Option.some.inj h
    exact G_iret C dX9_weightOf_33 (fun _ h => h)
  · replace h := z_in hc h
    refine G_iload_n (pc' := 11) C dX9_weightOf_10 0 rfl rfl ?_
    refine G_widen (k := rmX9_weightOf.cells) (n := rmX9_weightOf.slots) (by decide) (by decide) ?_
    obtain rfl := Option.some.inj h
    exact G_iret C dX9_weightOf_11 (fun _ h => h)
theorem dX9_depth_0 : decode cX9_depth 0 = .ok (.aload_n 0, 1) := by decide +kernel
theorem dX9_depth_1 : decode cX9_depth 1 = .ok (.iload_n 1, 1) := by decide +kernel
theorem dX9_depth_2 : decode cX9_depth 2 = .ok (.iconst 0, 1) := by decide +kernel
theorem dX9_depth_3 : decode cX9_depth 3 = .ok (.invokevirtual 220, 3) := by decide +kernel
theorem dX9_depth_6 : decode cX9_depth 6 = .ok (.ireturn, 1) := by decide +kernel
theorem yd_X9_depth : yX9_depth.cls = RX9 ∧ yX9_depth.cls ≠ "java/lang/invoke/MethodHandle" ∧ yX9_depth.cls ≠ "java/lang/invoke/VarHandle" ∧ (parseMethodDescriptor yX9_depth.desc).map (fun d => d.parameters.length) = some 1 := by decide +kernel
abbrev rmX9_depth : Room := { frames := 5, cells := 0, slots := 0, locals := 122 }
def fX9_depth (o : Nat) (z : CS) (a1 : Int32) : Option (Int32 × CS) :=
  (fX9_weightOf o z a1 (0 : Int32)).bind fun q1 =>
  some (q1.1, q1.2)
set_option maxHeartbeats 4000000 in
set_option maxRecDepth 100000 in
theorem tX9_depth (κ : KK) (l : Launch) (o : Nat) (z : CS) (a1 : Int32) (q : Int32 × CS) (h : fX9_depth o z a1 = some q) : MM κ l yX9_depth cX9_depth 2 (some .int) rmX9_depth (CA o) [.ref o, .int a1] (CB κ o z) (some (Value.int q.1)) (CB κ o q.2) := by
  refine MM.of (by decide +kernel) (Nat.le_of_ble_eq_true rfl) ?_
  intro p e s m below meth c C hnm
  unfold fX9_depth at h
  refine G_sub (lv' := [(0, .ref o), (1, .int a1)]) [0, 1] rfl ?_
  refine G_aload_n (pc' := 1) C dX9_depth_0 0 rfl rfl ?_
  refine G_iload_n (pc' := 2) C dX9_depth_1 1 rfl rfl ?_
  refine G_iconst (pc' := 3) (v := (0 : Int32)) C dX9_depth_2 (by decide) rfl ?_
  replace h := ob h
  obtain ⟨q1, hq1, h⟩ := h
  refine G_cV0 (pc' := 6) C dX9_depth_3 (tX9_weightOf κ l o z a1 (0 : Int32) q1 hq1) (wV tw_ml_X9_220 tw_im_X9_weightOf tw_se_X9_X9_weightOf tw_in_X9 tw_co_X9_weightOf) yd_X9_weightOf rfl fi_X9 (CB_rd 0 rfl) rfl rfl (by decide) rfl (Nat.le_of_ble_eq_true rfl) rfl rfl ?_
  refine G_widen (k := rmX9_depth.cells) (n := rmX9_depth.slots) (by decide) (by decide) ?_
  obtain rfl := Option.some.inj h
  exact G_iret C dX9_depth_6 (fun _ h => h)
theorem dX9_sum_0 : decode cX9_sum 0 = .ok (.aload_n 0, 1) := by decide +kernel
theorem dX9_sum_1 : decode cX9_sum 1 = .ok (.iload_n 1, 1) := by decide +kernel
theorem dX9_sum_2 : decode cX9_sum 2 = .ok (.iconst 1, 1) := by decide +kernel
theorem dX9_sum_3 : decode cX9_sum 3 = .ok (.invokevirtual 220, 3) := by decide +kernel
theorem dX9_sum_6 : decode cX9_sum 6 = .ok (.ireturn, 1) := by decide +kernel
theorem yd_X9_sum : yX9_sum.cls = RX9 ∧ yX9_sum.cls ≠ "java/lang/invoke/MethodHandle" ∧ yX9_sum.cls ≠ "java/lang/invoke/VarHandle" ∧ (parseMethodDescriptor yX9_sum.desc).map (fun d => d.parameters.length) = some 1 := by decide +kernel
abbrev rmX9_sum : Room := { frames := 5, cells := 0, slots := 0, locals := 122 }
def fX9_sum (o : Nat) (z : CS) (a1 : Int32) : Option (Int32 × CS) :=
  (fX9_weightOf o z a1 (1 : Int32)).bind fun q1 =>
  some (q1.1, q1.2)
set_option maxHeartbeats 4000000 in
set_option maxRecDepth 100000 in
theorem tX9_sum (κ : KK) (l : Launch) (o : Nat) (z : CS) (a1 : Int32) (q : Int32 × CS) (h : fX9_sum o z a1 = some q) : MM κ l yX9_sum cX9_sum 2 (some .int) rmX9_sum (CA o) [.ref o, .int a1] (CB κ o z) (some (Value.int q.1)) (CB κ o q.2) := by
  refine MM.of (by decide +kernel) (Nat.le_of_ble_eq_true rfl) ?_
  intro p e s m below meth c C hnm
  unfold fX9_sum at h
  refine G_sub (lv' := [(0, .ref o), (1, .int a1)]) [0, 1] rfl ?_
  refine G_aload_n (pc' := 1) C dX9_sum_0 0 rfl rfl ?_
  refine G_iload_n (pc' := 2) C dX9_sum_1 1 rfl rfl ?_
  refine G_iconst (pc' := 3) (v := (1 : Int32)) C dX9_sum_2 (by decide) rfl ?_
  replace h := ob h
  obtain ⟨q1, hq1, h⟩ := h
  refine G_cV0 (pc' := 6) C dX9_sum_3 (tX9_weightOf κ l o z a1 (1 : Int32) q1 hq1) (wV tw_ml_X9_220 tw_im_X9_weightOf tw_se_X9_X9_weightOf tw_in_X9 tw_co_X9_weightOf) yd_X9_weightOf rfl fi_X9 (CB_rd 0 rfl) rfl rfl (by decide) rfl (Nat.le_of_ble_eq_true rfl) rfl rfl ?_
  refine G_widen (k := rmX9_sum.cells) (n := rmX9_sum.slots) (by decide) (by decide) ?_
  obtain rfl := Option.some.inj h
  exact G_iret C dX9_sum_6 (fun _ h => h)
theorem dX1_bestBit_0 : decode cX1_bestBit 0 = .ok (.iload_n 1, 1) := by decide +kernel
theorem dX1_bestBit_1 : decode cX1_bestBit 1 = .ok (.istore_n 2, 1) := by decide +kernel
theorem dX1_bestBit_2 : decode cX1_bestBit 2 = .ok (.iconst 1, 1) := by decide +kernel
theorem dX1_bestBit_3 : decode cX1_bestBit 3 = .ok (.istore_n 3, 1) := by decide +kernel
theorem dX1_bestBit_4 : decode cX1_bestBit 4 = .ok (.iconst (-1), 1) := by decide +kernel
theorem dX1_bestBit_5 : decode cX1_bestBit 5 = .ok (.istore 4, 2) := by decide +kernel
theorem dX1_bestBit_7 : decode cX1_bestBit 7 = .ok (.ldc 44, 2) := by decide +kernel
theorem dX1_bestBit_9 : decode cX1_bestBit 9 = .ok (.istore 5, 2) := by decide +kernel
theorem dX1_bestBit_11 : decode cX1_bestBit 11 = .ok (.iconst 0, 1) := by decide +kernel
theorem dX1_bestBit_12 : decode cX1_bestBit 12 = .ok (.istore 6, 2) := by decide +kernel
theorem dX1_bestBit_14 : decode cX1_bestBit 14 = .ok (.iload 6, 2) := by decide +kernel
theorem dX1_bestBit_16 : decode cX1_bestBit 16 = .ok (.aload_n 0, 1) := by decide +kernel
theorem dX1_bestBit_17 : decode cX1_bestBit 17 = .ok (.getfield 19, 3) := by decide +kernel
theorem dX1_bestBit_20 : decode cX1_bestBit 20 = .ok (.getfield 27, 3) := by decide +kernel
theorem dX1_bestBit_23 : decode cX1_bestBit 23 = .ok (.if_icmp .ge 47, 3) := by decide +kernel
theorem dX1_bestBit_26 : decode cX1_bestBit 26 = .ok (.iload_n 2, 1) := by decide +kernel
theorem dX1_bestBit_27 : decode cX1_bestBit 27 = .ok (.iconst 3, 1) := by decide +kernel
theorem dX1_bestBit_28 : decode cX1_bestBit 28 = .ok (.irem, 1) := by decide +kernel
theorem dX1_bestBit_29 : decode cX1_bestBit 29 = .ok (.iconst 2, 1) := by decide +kernel
theorem dX1_bestBit_30 : decode cX1_bestBit 30 = .ok (.if_icmp .ne 26, 3) := by decide +kernel
theorem dX1_bestBit_33 : decode cX1_bestBit 33 = .ok (.aload_n 0, 1) := by decide +kernel
theorem dX1_bestBit_34 : decode cX1_bestBit 34 = .ok (.iload_n 1, 1) := by decide +kernel
theorem dX1_bestBit_35 : decode cX1_bestBit 35 = .ok (.iload_n 3, 1) := by decide +kernel
theorem dX1_bestBit_36 : decode cX1_bestBit 36 = .ok (.invokevirtual 45, 3) := by decide +kernel
theorem dX1_bestBit_39 : decode cX1_bestBit 39 = .ok (.iload 5, 2) := by decide +kernel
theorem dX1_bestBit_41 : decode cX1_bestBit 41 = .ok (.if_icmp .ge 15, 3) := by decide +kernel
theorem dX1_bestBit_44 : decode cX1_bestBit 44 = .ok (.iload 6, 2) := by decide +kernel
theorem dX1_bestBit_46 : decode cX1_bestBit 46 = .ok (.istore 4, 2) := by decide +kernel
theorem dX1_bestBit_48 : decode cX1_bestBit 48 = .ok (.aload_n 0, 1) := by decide +kernel
theorem dX1_bestBit_49 : decode cX1_bestBit 49 = .ok (.iload_n 1, 1) := by decide +kernel
theorem dX1_bestBit_50 : decode cX1_bestBit 50 = .ok (.iload_n 3, 1) := by decide +kernel
theorem dX1_bestBit_51 : decode cX1_bestBit 51 = .ok (.invokevirtual 45, 3) := by decide +kernel
theorem dX1_bestBit_54 : decode cX1_bestBit 54 = .ok (.istore 5, 2) := by decide +kernel
theorem dX1_bestBit_56 : decode cX1_bestBit 56 = .ok (.iload_n 2, 1) := by decide +kernel
theorem dX1_bestBit_57 : decode cX1_bestBit 57 = .ok (.iconst 3, 1) := by decide +kernel
theorem dX1_bestBit_58 : decode cX1_bestBit 58 = .ok (.idiv, 1) := by decide +kernel
theorem dX1_bestBit_59 : decode cX1_bestBit 59 = .ok (.istore_n 2, 1) := by decide +kernel
theorem dX1_bestBit_60 : decode cX1_bestBit 60 = .ok (.iload_n 3, 1) := by decide +kernel
theorem dX1_bestBit_61 : decode cX1_bestBit 61 = .ok (.iconst 3, 1) := by decide +kernel
theorem dX1_bestBit_62 : decode cX1_bestBit 62 = .ok (.imul, 1) := by decide +kernel
theorem dX1_bestBit_63 : decode cX1_bestBit 63 = .ok (.istore_n 3, 1) := by decide +kernel
theorem dX1_bestBit_64 : decode cX1_bestBit 64 = .ok (.iinc 6 1, 3) := by decide +kernel
theorem dX1_bestBit_67 : decode cX1_bestBit 67 = .ok (.goto (-53), 3) := by decide +kernel
theorem dX1_bestBit_70 : decode cX1_bestBit 70 = .ok (.iload 4, 2) := by decide +kernel
theorem dX1_bestBit_72 : decode cX1_bestBit 72 = .ok (.ireturn, 1) := by decide +kernel
theorem yd_X1_bestBit : yX1_bestBit.cls = RX1 ∧ yX1_bestBit.cls ≠ "java/lang/invoke/MethodHandle" ∧ yX1_bestBit.cls ≠ "java/lang/invoke/VarHandle" ∧ (parseMethodDescriptor yX1_bestBit.desc).map (fun d => d.parameters.length) = some 1 := by decide +kernel
abbrev rmX1_bestBit_5 : Room := { frames := 2, cells := 0, slots := 0, locals := 48 }
def fX1_bestBit_5_L14_J56 (o : Nat) (z : CS) (l1 : Int32) (l2 : Int32) (l3 : Int32) (l4 : Int32) (l5 : Int32) (l6 : Int32) : Option ((Int32 × Int32 × Int32 × Int32 × Int32) ⊕ Int32) :=
  some (.inl ((l2 / (3 : Int32)), (l3 * (3 : Int32)), l4, l5, (l6 + (1 : Int32))))
def fX1_bestBit_5_L14 (o : Nat) (z : CS) (l1 : Int32) (l2 : Int32) (l3 : Int32) (l4 : Int32) (l5 : Int32) (l6 : Int32) : Option ((Int32 × Int32 × Int32 × Int32 × Int32) ⊕ Int32) :=
  ((z.2.2.2.1 0)).bind fun ad1 =>
  (dT z ad1).bind fun t2 =>
  if t2.2.1 ≤ l6 then
    some (.inr l4)
  else
    if (l2 - l2 / (3 : Int32) * (3 : Int32)) = (2 : Int32) then
      (fX1_weightOfHalves_5 o z l1 l3).bind fun q3 =>
      if l5 ≤ q3 then
        fX1_bestBit_5_L14_J56 o z l1 l2 l3 l4 l5 l6
      else
        (fX1_weightOfHalves_5 o z l1 l3).bind fun q4 =>
        fX1_bestBit_5_L14_J56 o z l1 l2 l3 l6 q4 l6
    else
      fX1_bestBit_5_L14_J56 o z l1 l2 l3 l4 l5 l6
def fX1_bestBit_5 (o : Nat) (z : CS) (a1 : Int32) : Option (Int32) :=
  (lpN (fun u => fX1_bestBit_5_L14 o z a1 u.1 u.2.1 u.2.2.1 u.2.2.2.1 u.2.2.2.2) bigN (a1, (1 : Int32), (-1 : Int32), (1000000 : Int32), (0 : Int32))).bind fun e5 =>
  some e5
set_option maxHeartbeats 4000000 in
set_option maxRecDepth 100000 in
theorem tX1_bestBit_5_L14 {κ : KK} {p : Program} {l : Launch} {e : Env} {s : State} {m : MethodId} {args : Array Value} {below : List Frame} {meth : Method} {c : Code} (C : Cx κ p s m args meth c cX1_bestBit 7 RX1 (some .int)) {o : Nat} {v : Option Value} {B' : Heap → Prop} {z : CS} {l1 : Int32} {l2 : Int32} {l3 : Int32} {l4 : Int32} {l5 : Int32} {l6 : Int32} {y : (Int32 × Int32 × Int32 × Int32 × Int32) ⊕ Int32} (h : fX1_bestBit_5_L14 o z l1 l2 l3 l4 l5 l6 = some y) (kc : ∀ u, y = .inl u → GC κ p l e s m args below meth c rmX1_bestBit_5 7 o v B' 0 0 z 14 [(0, .ref (o + 5)), (1, .int l1), (2, .int u.1), (3, .int u.2.1), (4, .int u.2.2.1), (5, .int u.2.2.2.1), (6, .int u.2.2.2.2)] []) (kx : ∀ w, y = .inr w → GC κ p l e s m args below meth c rmX1_bestBit_5 7 o v B' 0 0 z 70 [(4, .int w)] []) : GC κ p l e s m args below meth c rmX1_bestBit_5 7 o v B' 0 0 z 14 [(0, .ref (o + 5)), (1, .int l1), (2, .int l2), (3, .int l3), (4, .int l4), (5, .int l5), (6, .int l6)] [] := by
  have J56 : ∀ (l2 : Int32) (l3 : Int32) (l4 : Int32) (l5 : Int32) (l6 : Int32), fX1_bestBit_5_L14_J56 o z l1 l2 l3 l4 l5 l6 = some y → GC κ p l e s m args below meth c rmX1_bestBit_5 7 o v B' 0 0 z 56 [(0, .ref (o + 5)), (1, .int l1), (2, .int l2), (3, .int l3), (4, .int l4), (5, .int l5), (6, .int l6)] [] := by
    intro l2 l3 l4 l5 l6 h
    unfold fX1_bestBit_5_L14_J56 at h
    refine G_iload_n (pc' := 57) C dX1_bestBit_56 2 rfl rfl ?_
    refine G_iconst (pc' := 58) (v := (3 : Int32)) C dX1_bestBit_57 (by decide) rfl ?_
    refine G_idiv (pc' := 59) C dX1_bestBit_58 (by decide) rfl ?_
    refine G_istore_n (pc' := 60) C dX1_bestBit_59 [(2, .int (l2 / (3 : Int32))), (0, .ref (o + 5)), (1, .int l1), (3, .int l3), (4, .int l4), (5, .int l5), (6, .int l6)] (by decide) rfl rfl ?_
    refine G_iload_n (pc' := 61) C dX1_bestBit_60 3 rfl rfl ?_
    refine G_iconst (pc' := 62) (v := (3 : Int32)) C dX1_bestBit_61 (by decide) rfl ?_
    refine G_imul (pc' := 63) C dX1_bestBit_62 rfl ?_
    refine G_istore_n (pc' := 64) C dX1_bestBit_63 [(3, .int (l3 * (3 : Int32))), (2, .int (l2 / (3 : Int32))), (0, .ref (o + 5)), (1, .int l1), (4, .int l4), (5, .int l5), (6, .int l6)] (by decide) rfl rfl ?_
    refine G_iinc (pc' := 67) C dX1_bestBit_64 6 rfl rfl [(6, .int (l6 + (1 : Int32))), (3, .int (l3 * (3 : Int32))), (2, .int (l2 / (3 : Int32))), (0, .ref (o + 5)), (1, .int l1), (4, .int l4), (5, .int l5)] (by decide) rfl rfl ?_
    refine G_goto (tgt := 14) C dX1_bestBit_67 (by decide) ?_
    exact G_sub (lv' := [(0, .ref (o + 5)), (1, .int l1), (2, .int (l2 / (3 : Int32))), (3, .int (l3 * (3 : Int32))), (4, .int l4), (5, .int l5), (6, .int (l6 + (1 : Int32)))]) [3, 4, 2, 1, 5, 6, 0] rfl (kc ((l2 / (3 : Int32)), (l3 * (3 : Int32)), l4, l5, (l6 + (1 : Int32))) (Option.some.inj h).symm)
  unfold fX1_bestBit_5_L14 at h
  refine G_iload (pc' := 16) C dX1_bestBit_14 6 rfl rfl ?_
  refine G_aload_n (pc' := 17) C dX1_bestBit_16 0 rfl rfl ?_
  refine G_get (pc' := 20) (k := 2) C fi_X1 dX1_bestBit_17 tw_fl_X1_19 rfl (by decide) (CB_rd 5 rfl) rfl rfl ?_
  replace h := ob h
  obtain ⟨ad1, had1, h⟩ := h
  rw [had1]
  replace h := ob h
  obtain ⟨t2, ht2, h⟩ := h
  refine G_get (pc' := 23) (k := 1) C fi_X8 dX1_bestBit_20 tw_fl_X1_27 rfl (by decide) (CB_T ht2) rfl rfl ?_
  refine G_icmp_ge (tgt := 70) (pc' := 26) C dX1_bestBit_23 (by decide) rfl (fun hc => ?_) (fun hc => ?_)
  · replace h := z_ip hc h
    exact G_sub (lv' := [(4, .int l4)]) [4] rfl (kx _ (Option.some.inj h).symm)
  · replace h := z_in hc h
    refine G_iload_n (pc' := 27) C dX1_bestBit_26 2 rfl rfl ?_
    refine G_iconst (pc' := 28) (v := (3 : Int32)) C dX1_bestBit_27 (by decide) rfl ?_
    refine G_irem (pc' := 29) C dX1_bestBit_28 (by decide) rfl ?_
    refine G_iconst (pc' := 30) (v := (2 : Int32)) C dX1_bestBit_29 (by decide) rfl ?_
    refine G_icmp_ne (tgt := 56) (pc' := 33) C dX1_bestBit_30 (by decide) rfl (fun hc => ?_) (fun hc => ?_)
    · replace h := z_in hc h
      exact G_sub (lv' := [(0, .ref (o + 5)), (1, .int l1), (2, .int l2), (3, .int l3), (4, .int l4), (5, .int l5), (6, .int l6)]) [0, 1, 2, 3, 4, 5, 6] rfl (J56 l2 l3 l4 l5 l6 h)
    · replace h := z_ip hc h
      refine G_aload_n (pc' := 34) C dX1_bestBit_33 0 rfl rfl ?_
      refine G_iload_n (pc' := 35) C dX1_bestBit_34 1 rfl rfl ?_
      refine G_iload_n (pc' := 36) C dX1_bestBit_35 3 rfl rfl ?_
      replace h := ob h
      obtain ⟨q3, hq3, h⟩ := h
      refine G_cV0 (pc' := 39) C dX1_bestBit_36 (tX1_weightOfHalves_5 κ l o z l1 l3 q3 hq3) (wV tw_ml_X1_45 tw_im_X1_weightOfHalves tw_se_X1_X1_weightOfHalves tw_in_X1 tw_co_X1_weightOfHalves) yd_X1_weightOfHalves rfl fi_X1 (CB_rd 5 rfl) rfl rfl (by decide) rfl (Nat.le_of_ble_eq_true rfl) rfl rfl ?_
      refine G_iload (pc' := 41) C dX1_bestBit_39 5 rfl rfl ?_
      refine G_icmp_ge (tgt := 56) (pc' := 44) C dX1_bestBit_41 (by decide) rfl (fun hc => ?_) (fun hc => ?_)
      · replace h := z_ip hc h
        exact G_sub (lv' := [(0, .ref (o + 5)), (1, .int l1), (2, .int l2), (3, .int l3), (4, .int l4), (5, .int l5), (6, .int l6)]) [0, 1, 2, 3, 4, 5, 6] rfl (J56 l2 l3 l4 l5 l6 h)
      · replace h := z_in hc h
        refine G_iload (pc' := 46) C dX1_bestBit_44 6 rfl rfl ?_
        refine G_istore (pc' := 48) C dX1_bestBit_46 [(4, .int l6), (0, .ref (o + 5)), (1, .int l1), (2, .int l2), (3, .int l3), (5, .int l5), (6, .int l6)] (by decide) rfl rfl ?_
        refine G_aload_n (pc' := 49) C dX1_bestBit_48 1 rfl rfl ?_
        refine G_iload_n (pc' := 50) C dX1_bestBit_49 2 rfl rfl ?_
        refine G_iload_n (pc' := 51) C dX1_bestBit_50 4 rfl rfl ?_
        replace h := ob h
        obtain ⟨q4, hq4, h⟩ := h
        refine G_cV0 (pc' := 54) C dX1_bestBit_51 (tX1_weightOfHalves_5 κ l o z l1 l3 q4 hq4) (wV tw_ml_X1_45 tw_im_X1_weightOfHalves tw_se_X1_X1_weightOfHalves tw_in_X1 tw_co_X1_weightOfHalves) yd_X1_weightOfHalves rfl fi_X1 (CB_rd 5 rfl) rfl rfl (by decide) rfl (Nat.le_of_ble_eq_true rfl) rfl rfl ?_
        refine G_istore (pc' := 56) C dX1_bestBit_54 [(5, .int q4), (4, .int l6), (0, .ref (o + 5)), (1, .int l1), (2, .int l2), (3, .int l3), (6, .int l6)] (by decide) rfl rfl ?_
        exact G_sub (lv' := [(0, .ref (o + 5)), (1, .int l1), (2, .int l2), (3, .int l3), (4, .int l6), (5, .int q4), (6, .int l6)]) [2, 3, 4, 5, 1, 0, 6] rfl (J56 l2 l3 l6 q4 l6 h)
set_option maxHeartbeats 4000000 in
set_option maxRecDepth 100000 in
theorem tX1_bestBit_5 (κ : KK) (l : Launch) (o : Nat) (z : CS) (a1 : Int32) (q : Int32) (h : fX1_bestBit_5 o z a1 = some q) : MM κ l yX1_bestBit cX1_bestBit 7 (some .int) rmX1_bestBit_5 (CA o) [.ref (o + 5), .int a1] (CB κ o z) (some (Value.int q)) (CB κ o z) := by
  refine MM.of (by decide +kernel) (Nat.le_of_ble_eq_true rfl) ?_
  intro p e s m below meth c C hnm
  unfold fX1_bestBit_5 at h
  refine G_sub (lv' := [(0, .ref (o + 5)), (1, .int a1)]) [0, 1] rfl ?_
  refine G_iload_n (pc' := 1) C dX1_bestBit_0 1 rfl rfl ?_
  refine G_istore_n (pc' := 2) C dX1_bestBit_1 [(2, .int a1), (0, .ref (o + 5)), (1, .int a1)] (by decide) rfl rfl ?_
  refine G_iconst (pc' := 3) (v := (1 : Int32)) C dX1_bestBit_2 (by decide) rfl ?_
  refine G_istore_n (pc' := 4) C dX1_bestBit_3 [(3, .int (1 : Int32)), (2, .int a1), (0, .ref (o + 5)), (1, .int a1)] (by decide) rfl rfl ?_
  refine G_iconst (pc' := 5) (v := (-1 : Int32)) C dX1_bestBit_4 (by decide) rfl ?_
  refine G_istore (pc' := 7) C dX1_bestBit_5 [(4, .int (-1 : Int32)), (3, .int (1 : Int32)), (2, .int a1), (0, .ref (o + 5)), (1, .int a1)] (by decide) rfl rfl ?_
  refine G_ldc (pc' := 9) C dX1_bestBit_7 tw_k_X1_44 rfl ?_
  refine G_istore (pc' := 11) C dX1_bestBit_9 [(5, .int (1000000 : Int32)), (4, .int (-1 : Int32)), (3, .int (1 : Int32)), (2, .int a1), (0, .ref (o + 5)), (1, .int a1)] (by decide) rfl rfl ?_
  refine G_iconst (pc' := 12) (v := (0 : Int32)) C dX1_bestBit_11 (by decide) rfl ?_
  refine G_istore (pc' := 14) C dX1_bestBit_12 [(6, .int (0 : Int32)), (5, .int (1000000 : Int32)), (4, .int (-1 : Int32)), (3, .int (1 : Int32)), (2, .int a1), (0, .ref (o + 5)), (1, .int a1)] (by decide) rfl rfl ?_
  replace h := ob h
  obtain ⟨e5, hle5, h⟩ := h
  refine G_sub (lv' := [(0, .ref (o + 5)), (1, .int a1), (2, .int a1), (3, .int (1 : Int32)), (4, .int (-1 : Int32)), (5, .int (1000000 : Int32)), (6, .int (0 : Int32))]) [5, 6, 4, 3, 2, 1, 0] rfl ?_
  refine lpN_ind (body := fun u => fX1_bestBit_5_L14 o z a1 u.1 u.2.1 u.2.2.1 u.2.2.2.1 u.2.2.2.2) (P := fun u => GC κ p l e s m ([.ref (o + 5), .int a1] : List Value).toArray below meth c rmX1_bestBit_5 7 o (some (Value.int q)) (CB κ o z) 0 0 z 14 [(0, .ref (o + 5)), (1, .int a1), (2, .int u.1), (3, .int u.2.1), (4, .int u.2.2.1), (5, .int u.2.2.2.1), (6, .int u.2.2.2.2)] []) (X := fun w => GC κ p l e s m ([.ref (o + 5), .int a1] : List Value).toArray below meth c rmX1_bestBit_5 7 o (some (Value.int q)) (CB κ o z) 0 0 z 70 [(4, .int w)] []) (fun u y hb kc kx => tX1_bestBit_5_L14 C hb kc kx) _ _ _ hle5 ?_
  refine G_iload (pc' := 72) C dX1_bestBit_70 0 rfl rfl ?_
  obtain rfl := Option.some.inj h
  exact G_iret C dX1_bestBit_72 (fun _ h => h)
theorem dX1_saysAll_0 : decode cX1_saysAll 0 = .ok (.aload_n 0, 1) := by decide +kernel
theorem dX1_saysAll_1 : decode cX1_saysAll 1 = .ok (.getfield 9, 3) := by decide +kernel
theorem dX1_saysAll_4 : decode cX1_saysAll 4 = .ok (.iload_n 1, 1) := by decide +kernel
theorem dX1_saysAll_5 : decode cX1_saysAll 5 = .ok (.baload, 1) := by decide +kernel
theorem dX1_saysAll_6 : decode cX1_saysAll 6 = .ok (.iconst 1, 1) := by decide +kernel
theorem dX1_saysAll_7 : decode cX1_saysAll 7 = .ok (.if_icmp .ne 7, 3) := by decide +kernel
theorem dX1_saysAll_10 : decode cX1_saysAll 10 = .ok (.iconst 0, 1) := by decide +kernel
theorem dX1_saysAll_11 : decode cX1_saysAll 11 = .ok (.goto 18, 3) := by decide +kernel
theorem dX1_saysAll_14 : decode cX1_saysAll 14 = .ok (.aload_n 0, 1) := by decide +kernel
theorem dX1_saysAll_15 : decode cX1_saysAll 15 = .ok (.getfield 9, 3) := by decide +kernel
theorem dX1_saysAll_18 : decode cX1_saysAll 18 = .ok (.iload_n 1, 1) := by decide +kernel
theorem dX1_saysAll_19 : decode cX1_saysAll 19 = .ok (.baload, 1) := by decide +kernel
theorem dX1_saysAll_20 : decode cX1_saysAll 20 = .ok (.iconst 2, 1) := by decide +kernel
theorem dX1_saysAll_21 : decode cX1_saysAll 21 = .ok (.if_icmp .ne 7, 3) := by decide +kernel
theorem dX1_saysAll_24 : decode cX1_saysAll 24 = .ok (.iconst 1, 1) := by decide +kernel
theorem dX1_saysAll_25 : decode cX1_saysAll 25 = .ok (.goto 4, 3) := by decide +kernel
theorem dX1_saysAll_28 : decode cX1_saysAll 28 = .ok (.iconst 2, 1) := by decide +kernel
theorem dX1_saysAll_29 : decode cX1_saysAll 29 = .ok (.ireturn, 1) := by decide +kernel
theorem yd_X1_saysAll : yX1_saysAll.cls = RX1 ∧ yX1_saysAll.cls ≠ "java/lang/invoke/MethodHandle" ∧ yX1_saysAll.cls ≠ "java/lang/invoke/VarHandle" ∧ (parseMethodDescriptor yX1_saysAll.desc).map (fun d => d.parameters.length) = some 1 := by decide +kernel
abbrev rmX1_saysAll_5 : Room := { frames := 0, cells := 0, slots := 0, locals := 0 }
def fX1_saysAll_5 (o : Nat) (z : CS) (a1 : Int32) : Option (Int32) :=
  (aI 6561 (z.2.1 1) a1).bind fun v1 =>
  if v1 = (1 : Int32) then
    some (0 : Int32)
  else
    (aI 6561 (z.2.1 1) a1).bind fun v2 =>
    if v2 = (2 : Int32) then
      some (1 : Int32)
    else
      some (2 : Int32)
set_option maxHeartbeats 4000000 in
set_option maxRecDepth 100000 in
theorem tX1_saysAll_5 (κ : KK) (l : Launch) (o : Nat) (z : CS) (a1 : Int32) (q : Int32) (h : fX1_saysAll_5 o z a1 = some q) : MM κ l yX1_saysAll cX1_saysAll 2 (some .int) rmX1_saysAll_5 (CA o) [.ref (o + 5), .int a1] (CB κ o z) (some (Value.int q)) (CB κ o z) := by
  refine MM.of (by decide +kernel) (Nat.le_of_ble_eq_true rfl) ?_
  intro p e s m below meth c C hnm
  unfold fX1_saysAll_5 at h
  refine G_sub (lv' := [(0, .ref (o + 5)), (1, .int a1)]) [0, 1] rfl ?_
  refine G_aload_n (pc' := 1) C dX1_saysAll_0 0 rfl rfl ?_
  refine G_get (pc' := 4) (k := 0) C fi_X1 dX1_saysAll_1 tw_fl_X1_9 rfl (by decide) (CB_rd 5 rfl) rfl rfl ?_
  refine G_iload_n (pc' := 5) C dX1_saysAll_4 1 rfl rfl ?_
  replace h := ob h
  obtain ⟨v1, hv1, h⟩ := h
  refine G_baldV (pc' := 6) C dX1_saysAll_5 (CB_rd 6 rfl) hv1 rfl ?_
  refine G_iconst (pc' := 7) (v := (1 : Int32)) C dX1_saysAll_6 (by decide) rfl ?_
  refine G_icmp_ne (tgt := 14) (pc' := 10) C dX1_saysAll_7 (by decide) rfl (fun hc => ?_) (fun hc => ?_)
  · replace h := z_in hc h
    refine G_aload_n (pc' := 15) C dX1_saysAll_14 0 rfl rfl ?_
    refine G_get (pc' := 18) (k := 0) C fi_X1 dX1_saysAll_15 tw_fl_X1_9 rfl (by decide) (CB_rd 5 rfl) rfl rfl ?_
    refine G_iload_n (pc' := 19) C dX1_saysAll_18 1 rfl rfl ?_
    replace h := ob h
    obtain ⟨v2, hv2, h⟩ := h
    refine G_baldV (pc' := 20) C dX1_saysAll_19 (CB_rd 6 rfl) hv2 rfl ?_
    refine G_iconst (pc' := 21) (v := (2 : Int32)) C dX1_saysAll_20 (by decide) rfl ?_
    refine G_icmp_ne (tgt := 28) (pc' := 24) C dX1_saysAll_21 (by decide) rfl (fun hc => ?_) (fun hc => ?_)
    · replace h := z_in hc h
      refine G_iconst (pc' := 29) (v := (2 : Int32)) C dX1_saysAll_28 (by decide) rfl ?_
      obtain rfl := Option.some.inj h
      exact G_iret C dX1_saysAll_29 (fun _ h => h)
    · replace h := z_ip hc h
      refine G_iconst (pc' := 25) (v := (1 : Int32)) C dX1_saysAll_24 (by decide) rfl ?_
      refine G_goto (tgt := 29) C dX1_saysAll_25 (by decide) ?_
      obtain rfl := Option.some.inj h
      exact G_iret C dX1_saysAll_29 (fun _ h => h)
  · replace h := z_ip hc h
    refine G_iconst (pc' := 11) (v := (0 : Int32)) C dX1_saysAll_10 (by decide) rfl ?_
    refine G_goto (tgt := 29) C dX1_saysAll_11 (by decide) ?_
    obtain rfl := Option.some.inj h
    exact G_iret C dX1_saysAll_29 (fun _ h => h)
theorem dX5_grow_0 : decode cX5_grow 0 = .ok (.iload_n 3, 1) := by decide +kernel
theorem dX5_grow_1 : decode cX5_grow 1 = .ok (.bipush 8, 2) := by decide +kernel
theorem dX5_grow_3 : decode cX5_grow 3 = .ok (.if_icmp .gt 15, 3) := by decide +kernel
theorem dX5_grow_6 : decode cX5_grow 6 = .ok (.aload_n 0, 1) := by decide +kernel
theorem dX5_grow_7 : decode cX5_grow 7 = .ok (.getfield 21, 3) := by decide +kernel
theorem dX5_grow_10 : decode cX5_grow 10 = .ok (.aload_n 0, 1) := by decide +kernel
theorem dX5_grow_11 : decode cX5_grow 11 = .ok (.getfield 9, 3) := by decide +kernel
theorem dX5_grow_14 : decode cX5_grow 14 = .ok (.arraylength, 1) := by decide +kernel
theorem dX5_grow_15 : decode cX5_grow 15 = .ok (.if_icmp .lt 4, 3) := by decide +kernel
theorem dX5_grow_18 : decode cX5_grow 18 = .ok (.return_, 1) := by decide +kernel
theorem dX5_grow_19 : decode cX5_grow 19 = .ok (.aload_n 0, 1) := by decide +kernel
theorem dX5_grow_20 : decode cX5_grow 20 = .ok (.getfield 21, 3) := by decide +kernel
theorem dX5_grow_23 : decode cX5_grow 23 = .ok (.istore 4, 2) := by decide +kernel
theorem dX5_grow_25 : decode cX5_grow 25 = .ok (.aload_n 0, 1) := by decide +kernel
theorem dX5_grow_26 : decode cX5_grow 26 = .ok (.dup, 1) := by decide +kernel
theorem dX5_grow_27 : decode cX5_grow 27 = .ok (.getfield 21, 3) := by decide +kernel
theorem dX5_grow_30 : decode cX5_grow 30 = .ok (.iconst 1, 1) := by decide +kernel
theorem dX5_grow_31 : decode cX5_grow 31 = .ok (.iadd, 1) := by decide +kernel
theorem dX5_grow_32 : decode cX5_grow 32 = .ok (.putfield 21, 3) := by decide +kernel
theorem dX5_grow_35 : decode cX5_grow 35 = .ok (.aload_n 0, 1) := by decide +kernel
theorem dX5_grow_36 : decode cX5_grow 36 = .ok (.getfield 15, 3) := by decide +kernel
theorem dX5_grow_39 : decode cX5_grow 39 = .ok (.iload 4, 2) := by decide +kernel
theorem dX5_grow_41 : decode cX5_grow 41 = .ok (.iload_n 3, 1) := by decide +kernel
theorem dX5_grow_42 : decode cX5_grow 42 = .ok (.iastore, 1) := by decide +kernel
theorem dX5_grow_43 : decode cX5_grow 43 = .ok (.aload_n 1, 1) := by decide +kernel
theorem dX5_grow_44 : decode cX5_grow 44 = .ok (.iload_n 2, 1) := by decide +kernel
theorem dX5_grow_45 : decode cX5_grow 45 = .ok (.invokevirtual 34, 3) := by decide +kernel
theorem dX5_grow_48 : decode cX5_grow 48 = .ok (.ifCond .eq 21, 3) := by decide +kernel
theorem dX5_grow_51 : decode cX5_grow 51 = .ok (.aload_n 0, 1) := by decide +kernel
theorem dX5_grow_52 : decode cX5_grow 52 = .ok (.getfield 9, 3) := by decide +kernel
theorem dX5_grow_55 : decode cX5_grow 55 = .ok (.iload 4, 2) := by decide +kernel
theorem dX5_grow_57 : decode cX5_grow 57 = .ok (.bipush 20, 2) := by decide +kernel
theorem dX5_grow_59 : decode cX5_grow 59 = .ok (.aload_n 1, 1) := by decide +kernel
theorem dX5_grow_60 : decode cX5_grow 60 = .ok (.iload_n 2, 1) := by decide +kernel
theorem dX5_grow_61 : decode cX5_grow 61 = .ok (.invokevirtual 38, 3) := by decide +kernel
theorem dX5_grow_64 : decode cX5_grow 64 = .ok (.iadd, 1) := by decide +kernel
theorem dX5_grow_65 : decode cX5_grow 65 = .ok (.iastore, 1) := by decide +kernel
theorem dX5_grow_66 : decode cX5_grow 66 = .ok (.goto 53, 3) := by decide +kernel
theorem dX5_grow_69 : decode cX5_grow 69 = .ok (.aload_n 0, 1) := by decide +kernel
theorem dX5_grow_70 : decode cX5_grow 70 = .ok (.getfield 9, 3) := by decide +kernel
theorem dX5_grow_73 : decode cX5_grow 73 = .ok (.iload 4, 2) := by decide +kernel
theorem dX5_grow_75 : decode cX5_grow 75 = .ok (.aload_n 1, 1) := by decide +kernel
theorem dX5_grow_76 : decode cX5_grow 76 = .ok (.iload_n 2, 1) := by decide +kernel
theorem dX5_grow_77 : decode cX5_grow 77 = .ok (.invokevirtual 42, 3) := by decide +kernel
theorem dX5_grow_80 : decode cX5_grow 80 = .ok (.iastore, 1) := by decide +kernel
theorem dX5_grow_81 : decode cX5_grow 81 = .ok (.aload_n 0, 1) := by decide +kernel
theorem dX5_grow_82 : decode cX5_grow 82 = .ok (.getfield 9, 3) := by decide +kernel
theorem dX5_grow_85 : decode cX5_grow 85 = .ok (.iload 4, 2) := by decide +kernel
theorem dX5_grow_87 : decode cX5_grow 87 = .ok (.iaload, 1) := by decide +kernel
theorem dX5_grow_88 : decode cX5_grow 88 = .ok (.invokestatic 45, 3) := by decide +kernel
theorem dX5_grow_91 : decode cX5_grow 91 = .ok (.istore 5, 2) := by decide +kernel
theorem dX5_grow_93 : decode cX5_grow 93 = .ok (.aload_n 0, 1) := by decide +kernel
theorem dX5_grow_94 : decode cX5_grow 94 = .ok (.aload_n 1, 1) := by decide +kernel
theorem dX5_grow_95 : decode cX5_grow 95 = .ok (.iload_n 2, 1) := by decide +kernel
theorem dX5_grow_96 : decode cX5_grow 96 = .ok (.iconst 2, 1) := by decide +kernel
theorem dX5_grow_97 : decode cX5_grow 97 = .ok (.iload 5, 2) := by decide +kernel
theorem dX5_grow_99 : decode cX5_grow 99 = .ok (.imul, 1) := by decide +kernel
theorem dX5_grow_100 : decode cX5_grow 100 = .ok (.isub, 1) := by decide +kernel
theorem dX5_grow_101 : decode cX5_grow 101 = .ok (.iload_n 3, 1) := by decide +kernel
theorem dX5_grow_102 : decode cX5_grow 102 = .ok (.iconst 1, 1) := by decide +kernel
theorem dX5_grow_103 : decode cX5_grow 103 = .ok (.iadd, 1) := by decide +kernel
theorem dX5_grow_104 : decode cX5_grow 104 = .ok (.invokevirtual 30, 3) := by decide +kernel
theorem dX5_grow_107 : decode cX5_grow 107 = .ok (.aload_n 0, 1) := by decide +kernel
theorem dX5_grow_108 : decode cX5_grow 108 = .ok (.aload_n 1, 1) := by decide +kernel
theorem dX5_grow_109 : decode cX5_grow 109 = .ok (.iload_n 2, 1) := by decide +kernel
theorem dX5_grow_110 : decode cX5_grow 110 = .ok (.iload 5, 2) := by decide +kernel
theorem dX5_grow_112 : decode cX5_grow 112 = .ok (.isub, 1) := by decide +kernel
theorem dX5_grow_113 : decode cX5_grow 113 = .ok (.iload_n 3, 1) := by decide +kernel
theorem dX5_grow_114 : decode cX5_grow 114 = .ok (.iconst 1, 1) := by decide +kernel
theorem dX5_grow_115 : decode cX5_grow 115 = .ok (.iadd, 1) := by decide +kernel
theorem dX5_grow_116 : decode cX5_grow 116 = .ok (.invokevirtual 30, 3) := by decide +kernel
theorem dX5_grow_119 : decode cX5_grow 119 = .ok (.aload_n 0, 1) := by decide +kernel
theorem dX5_grow_120 : decode cX5_grow 120 = .ok (.getfield 18, 3) := by decide +kernel
theorem dX5_grow_123 : decode cX5_grow 123 = .ok (.iload 4, 2) := by decide +kernel
theorem dX5_grow_125 : decode cX5_grow 125 = .ok (.aload_n 0, 1) := by decide +kernel
theorem dX5_grow_126 : decode cX5_grow 126 = .ok (.getfield 21, 3) := by decide +kernel
theorem dX5_grow_129 : decode cX5_grow 129 = .ok (.iastore, 1) := by decide +kernel
theorem dX5_grow_130 : decode cX5_grow 130 = .ok (.return_, 1) := by decide +kernel
theorem yd_X5_grow : yX5_grow.cls = RX5 ∧ yX5_grow.cls ≠ "java/lang/invoke/MethodHandle" ∧ yX5_grow.cls ≠ "java/lang/invoke/VarHandle" ∧ (parseMethodDescriptor yX5_grow.desc).map (fun d => d.parameters.length) = some 3 := by decide +kernel
abbrev rmX5_grow_8 (n : Nat) : Room := { frames := n + 3, cells := 0, slots := 0, locals := 25 * n + 74 }
def fX5_grow_8_B_J119 (o : Nat) (rec : CS → Int32 → Int32 → Option (CS)) (z : CS) (l4 : Int32) : Option (CS) :=
  (csA z 5 511 l4 (z.1 6)).bind fun z9 =>
  some z9
def fX5_grow_8_B (o : Nat) (rec : CS → Int32 → Int32 → Option (CS)) (z : CS) (a2 : Int32) (a3 : Int32) : Option (CS) :=
  if (8 : Int32) < a3 then
    some z
  else
    if (z.1 6) < (nI 511) then
      (csA (cI z 6 ((z.1 6) + (1 : Int32))) 4 511 (z.1 6) a3).bind fun z1 =>
      (fX1_isSettled_5 o z1 a2).bind fun q2 =>
      if q2 = 0 then
        (fX1_bestBit_5 o z1 a2).bind fun q3 =>
        (csA z1 3 511 (z.1 6) q3).bind fun z4 =>
        (aI 511 (z4.2.1 3) (z.1 6)).bind fun v5 =>
        (fX1_powerOf v5).bind fun q6 =>
        (rec z4 (a2 - ((2 : Int32) * q6)) (a3 + (1 : Int32))).bind fun q7 =>
        (rec q7 (a2 - q6) (a3 + (1 : Int32))).bind fun q8 =>
        fX5_grow_8_B_J119 o rec q8 (z.1 6)
      else
        (fX1_saysAll_5 o z1 a2).bind fun q10 =>
        (csA z1 3 511 (z.1 6) ((20 : Int32) + q10)).bind fun z11 =>
        fX5_grow_8_B_J119 o rec z11 (z.1 6)
    else
      some z
def fX5_grow_8 : Nat → Nat → CS → Int32 → Int32 → Option (CS)
  | 0, _, _, _, _ => none
  | n + 1, o, z, a2, a3 => fX5_grow_8_B o (fX5_grow_8 n o) z a2 a3
set_option maxHeartbeats 4000000 in
set_option maxRecDepth 100000 in
theorem tX5_grow_8_B (κ : KK) (l : Launch) (o : Nat) (rec : CS → Int32 → Int32 → Option (CS)) (n : Nat) (hrec : ∀ (z : CS) (a2 : Int32) (a3 : Int32) (q : CS), rec z a2 a3 = some q → MM κ l yX5_grow cX5_grow 6 none (rmX5_grow_8 n) (CA o) [.ref (o + 8), .ref (o + 5), .int a2, .int a3] (CB κ o z) none (CB κ o q)) (z : CS) (a2 : Int32) (a3 : Int32) (q : CS) (h : fX5_grow_8_B o rec z a2 a3 = some q) : MM κ l yX5_grow cX5_grow 6 none (rmX5_grow_8 (n + 1)) (CA o) [.ref (o + 8), .ref (o + 5), .int a2, .int a3] (CB κ o z) none (CB κ o q) := by
  refine MM.of (by decide +kernel) (Nat.le_of_ble_eq_true rfl) ?_
  intro p e s m below meth c C hnm
  have J119 : ∀ (z : CS) (l4 : Int32), fX5_grow_8_B_J119 o rec z l4 = some q → GC κ p l e s m ([.ref (o + 8), .ref (o + 5), .int a2, .int a3] : List Value).toArray below meth c (rmX5_grow_8 (n + 1)) 6 o none (CB κ o q) 0 0 z 119 [(0, .ref (o + 8)), (4, .int l4)] [] := by
    intro z l4 h
    unfold fX5_grow_8_B_J119 at h
    refine G_aload_n (pc' := 120) C dX5_grow_119 0 rfl rfl ?_
    refine G_get (pc' := 123) (k := 2) C fi_X5 dX5_grow_120 tw_fl_X5_18 rfl (by decide) (CB_rd 8 rfl) rfl rfl ?_
    refine G_iload (pc' := 125) C dX5_grow_123 1 rfl rfl ?_
    refine G_aload_n (pc' := 126) C dX5_grow_125 0 rfl rfl ?_
    refine G_get (pc' := 129) (k := 3) C fi_X5 dX5_grow_126 tw_fl_X5_21 rfl (by decide) (CB_rd 8 rfl) rfl rfl ?_
    replace h := ob h
    obtain ⟨z9, hz9, h⟩ := h
    refine C_s_11 (pc' := 130) C dX5_grow_129 hz9 rfl ?_
    obtain rfl := Option.some.inj h
    exact G_vret C dX5_grow_130 (fun _ h => h)
  unfold fX5_grow_8_B at h
  refine G_sub (lv' := [(0, .ref (o + 8)), (1, .ref (o + 5)), (2, .int a2), (3, .int a3)]) [0, 1, 2, 3] rfl ?_
  refine G_iload_n (pc' := 1) C dX5_grow_0 3 rfl rfl ?_
  refine G_bipush (pc' := 3) (v := (8 : Int32)) C dX5_grow_1 (by decide) rfl ?_
  refine G_icmp_gt (tgt := 18) (pc' := 6) C dX5_grow_3 (by decide) rfl (fun hc => ?_) (fun hc => ?_)
  · replace h := z_ip hc h
    obtain rfl := Option.some.inj h
    exact G_vret C dX5_grow_18 (fun _ h => h)
  · replace h := z_in hc h
    refine G_aload_n (pc' := 7) C dX5_grow_6 0 rfl rfl ?_
    refine G_get (pc' := 10) (k := 3) C fi_X5 dX5_grow_7 tw_fl_X5_21 rfl (by decide) (CB_rd 8 rfl) rfl rfl ?_
    refine G_aload_n (pc' := 11) C dX5_grow_10 0 rfl rfl ?_
    refine G_get (pc' := 14) (k := 0) C fi_X5 dX5_grow_11 tw_fl_X5_9 rfl (by decide) (CB_rd 8 rfl) rfl rfl ?_
    refine G_alen (pc' := 15) 0 C dX5_grow_14 rfl (CB_rd 9 rfl) rfl ?_
    refine G_icmp_lt (tgt := 19) (pc' := 18) C dX5_grow_15 (by decide) rfl (fun hc => ?_) (fun hc => ?_)
    · replace h := z_ip hc h
      refine G_aload_n (pc' := 20) C dX5_grow_19 0 rfl rfl ?_
      refine G_get (pc' := 23) (k := 3) C fi_X5 dX5_grow_20 tw_fl_X5_21 rfl (by decide) (CB_rd 8 rfl) rfl rfl ?_
      refine G_istore (pc' := 25) C dX5_grow_23 [(4, .int (z.1 6)), (0, .ref (o + 8)), (1, .ref (o + 5)), (2, .int a2), (3, .int a3)] (by decide) rfl rfl ?_
      refine G_aload_n (pc' := 26) C dX5_grow_25 1 rfl rfl ?_
      refine G_dup (pc' := 27) C dX5_grow_26 rfl rfl ?_
      refine G_get (pc' := 30) (k := 3) C fi_X5 dX5_grow_27 tw_fl_X5_21 rfl (by decide) (CB_rd 8 rfl) rfl rfl ?_
      refine G_iconst (pc' := 31) (v := (1 : Int32)) C dX5_grow_30 (by decide) rfl ?_
      refine G_iadd (pc' := 32) C dX5_grow_31 rfl ?_
      refine G_put (pc' := 35) (k := 3) C fi_X5 dX5_grow_32 tw_fl_X5_21 rfl (by decide) rfl rfl rfl (Nat.le_of_ble_eq_true rfl) (CB_rd 8 rfl) (CB_wr (cI z 6 ((z.1 6) + (1 : Int32))) 8 (by decide) rfl rfl) rfl ?_
      refine G_aload_n (pc' := 36) C dX5_grow_35 1 rfl rfl ?_
      refine G_get (pc' := 39) (k := 1) C fi_X5 dX5_grow_36 tw_fl_X5_15 rfl (by decide) (CB_rd 8 rfl) rfl rfl ?_
      refine G_iload (pc' := 41) C dX5_grow_39 0 rfl rfl ?_
      refine G_iload_n (pc' := 42) C dX5_grow_41 4 rfl rfl ?_
      replace h := ob h
      obtain ⟨z1, hz1, h⟩ := h
      refine C_s_10 (pc' := 43) C dX5_grow_42 hz1 rfl ?_
      refine G_aload_n (pc' := 44) C dX5_grow_43 2 rfl rfl ?_
      refine G_iload_n (pc' := 45) C dX5_grow_44 3 rfl rfl ?_
      replace h := ob h
      obtain ⟨q2, hq2, h⟩ := h
      refine G_cV0 (pc' := 48) C dX5_grow_45 (tX1_isSettled_5 κ l o z1 a2 q2 hq2) (wV tw_ml_X5_34 tw_im_X1_isSettled tw_se_X1_X1_isSettled tw_in_X1 tw_co_X1_isSettled) yd_X1_isSettled rfl fi_X1 (CB_rd 5 rfl) rfl rfl (by refine ⟨⟨?_, ?_⟩, ?_, ?_⟩ <;> dsimp only [rmX5_grow_8] <;> omega) rfl (Nat.le_of_ble_eq_true rfl) rfl rfl ?_
      refine G_if_eq (tgt := 69) (pc' := 51) C dX5_grow_48 (by decide) rfl (fun hc => ?_) (fun hc => ?_)
      · replace h := z_ip hc h
        refine G_aload_n (pc' := 70) C dX5_grow_69 1 rfl rfl ?_
        refine G_get (pc' := 73) (k := 0) C fi_X5 dX5_grow_70 tw_fl_X5_9 rfl (by decide) (CB_rd 8 rfl) rfl rfl ?_
        refine G_iload (pc' := 75) C dX5_grow_73 0 rfl rfl ?_
        refine G_aload_n (pc' := 76) C dX5_grow_75 2 rfl rfl ?_
        refine G_iload_n (pc' := 77) C dX5_grow_76 3 rfl rfl ?_
        replace h := ob h
        obtain ⟨q3, hq3, h⟩ := h
        refine G_cV0 (pc' := 80) C dX5_grow_77 (tX1_bestBit_5 κ l o z1 a2 q3 hq3) (wV tw_ml_X5_42 tw_im_X1_bestBit tw_se_X1_X1_bestBit tw_in_X1 tw_co_X1_bestBit) yd_X1_bestBit rfl fi_X1 (CB_rd 5 rfl) rfl rfl (by refine ⟨⟨?_, ?_⟩, ?_, ?_⟩ <;> dsimp only [rmX5_grow_8] <;> omega) rfl (Nat.le_of_ble_eq_true rfl) rfl rfl ?_
        replace h := ob h
        obtain ⟨z4, hz4, h⟩ := h
        refine C_s_9 (pc' := 81) C dX5_grow_80 hz4 rfl ?_
        refine G_aload_n (pc' := 82) C dX5_grow_81 1 rfl rfl ?_
        refine G_get (pc' := 85) (k := 0) C fi_X5 dX5_grow_82 tw_fl_X5_9 rfl (by decide) (CB_rd 8 rfl) rfl rfl ?_
        refine G_iload (pc' := 87) C dX5_grow_85 0 rfl rfl ?_
        replace h := ob h
        obtain ⟨v5, hv5, h⟩ := h
        refine G_ialdV (pc' := 88) C dX5_grow_87 (CB_rd 9 rfl) hv5 rfl ?_
        replace h := ob h
        obtain ⟨q6, hq6, h⟩ := h
        refine G_cS0 (pc' := 91) C dX5_grow_88 (tX1_powerOf κ l (CA o) (CB κ o z4) v5 q6 hq6) (wS tw_ml_X5_45 tw_st_X1_powerOf tw_co_X1_powerOf tw_in_X1) yd_X1_powerOf rfl rfl rfl (by refine ⟨⟨?_, ?_⟩, ?_, ?_⟩ <;> dsimp only [rmX5_grow_8] <;> omega) rfl (Nat.le_of_ble_eq_true rfl) rfl rfl ?_
        refine G_istore (pc' := 93) C dX5_grow_91 [(5, .int q6), (4, .int (z.1 6)), (0, .ref (o + 8)), (1, .ref (o + 5)), (2, .int a2), (3, .int a3)] (by decide) rfl rfl ?_
        refine G_aload_n (pc' := 94) C dX5_grow_93 2 rfl rfl ?_
        refine G_aload_n (pc' := 95) C dX5_grow_94 3 rfl rfl ?_
        refine G_iload_n (pc' := 96) C dX5_grow_95 4 rfl rfl ?_
        refine G_iconst (pc' := 97) (v := (2 : Int32)) C dX5_grow_96 (by decide) rfl ?_
        refine G_iload (pc' := 99) C dX5_grow_97 0 rfl rfl ?_
        refine G_imul (pc' := 100) C dX5_grow_99 rfl ?_
        refine G_isub (pc' := 101) C dX5_grow_100 rfl ?_
        refine G_iload_n (pc' := 102) C dX5_grow_101 5 rfl rfl ?_
        refine G_iconst (pc' := 103) (v := (1 : Int32)) C dX5_grow_102 (by decide) rfl ?_
        refine G_iadd (pc' := 104) C dX5_grow_103 rfl ?_
        replace h := ob h
        obtain ⟨q7, hq7, h⟩ := h
        refine G_cV0 (pc' := 107) C dX5_grow_104 (hrec z4 (a2 - ((2 : Int32) * q6)) (a3 + (1 : Int32)) q7 hq7) (wV tw_ml_X5_30 tw_im_X5_grow tw_se_X5_X5_grow tw_in_X5 tw_co_X5_grow) yd_X5_grow rfl fi_X5 (CB_rd 8 rfl) rfl rfl (by refine ⟨⟨?_, ?_⟩, ?_, ?_⟩ <;> dsimp only [rmX5_grow_8] <;> omega) rfl (Nat.le_of_ble_eq_true rfl) rfl rfl ?_
        refine G_aload_n (pc' := 108) C dX5_grow_107 2 rfl rfl ?_
        refine G_aload_n (pc' := 109) C dX5_grow_108 3 rfl rfl ?_
        refine G_iload_n (pc' := 110) C dX5_grow_109 4 rfl rfl ?_
        refine G_iload (pc' := 112) C dX5_grow_110 0 rfl rfl ?_
        refine G_isub (pc' := 113) C dX5_grow_112 rfl ?_
        refine G_iload_n (pc' := 114) C dX5_grow_113 5 rfl rfl ?_
        refine G_iconst (pc' := 115) (v := (1 : Int32)) C dX5_grow_114 (by decide) rfl ?_
        refine G_iadd (pc' := 116) C dX5_grow_115 rfl ?_
        replace h := ob h
        obtain ⟨q8, hq8, h⟩ := h
        refine G_cV0 (pc' := 119) C dX5_grow_116 (hrec q7 (a2 - q6) (a3 + (1 : Int32)) q8 hq8) (wV tw_ml_X5_30 tw_im_X5_grow tw_se_X5_X5_grow tw_in_X5 tw_co_X5_grow) yd_X5_grow rfl fi_X5 (CB_rd 8 rfl) rfl rfl (by refine ⟨⟨?_, ?_⟩, ?_, ?_⟩ <;> dsimp only [rmX5_grow_8] <;> omega) rfl (Nat.le_of_ble_eq_true rfl) rfl rfl ?_
        exact G_sub (lv' := [(0, .ref (o + 8)), (4, .int (z.1 6))]) [2, 1] rfl (J119 q8 (z.1 6) h)
      · replace h := z_in hc h
        refine G_aload_n (pc' := 52) C dX5_grow_51 1 rfl rfl ?_
        refine G_get (pc' := 55) (k := 0) C fi_X5 dX5_grow_52 tw_fl_X5_9 rfl (by decide) (CB_rd 8 rfl) rfl rfl ?_
        refine G_iload (pc' := 57) C dX5_grow_55 0 rfl rfl ?_
        refine G_bipush (pc' := 59) (v := (20 : Int32)) C dX5_grow_57 (by decide) rfl ?_
        refine G_aload_n (pc' := 60) C dX5_grow_59 2 rfl rfl ?_
        refine G_iload_n (pc' := 61) C dX5_grow_60 3 rfl rfl ?_
        replace h := ob h
        obtain ⟨q10, hq10, h⟩ := h
        refine G_cV0 (pc' := 64) C dX5_grow_61 (tX1_saysAll_5 κ l o z1 a2 q10 hq10) (wV tw_ml_X5_38 tw_im_X1_saysAll tw_se_X1_X1_saysAll tw_in_X1 tw_co_X1_saysAll) yd_X1_saysAll rfl fi_X1 (CB_rd 5 rfl) rfl rfl (by refine ⟨⟨?_, ?_⟩, ?_, ?_⟩ <;> dsimp only [rmX5_grow_8] <;> omega) rfl (Nat.le_of_ble_eq_true rfl) rfl rfl ?_
        refine G_iadd (pc' := 65) C dX5_grow_64 rfl ?_
        replace h := ob h
        obtain ⟨z11, hz11, h⟩ := h
        refine C_s_9 (pc' := 66) C dX5_grow_65 hz11 rfl ?_
        refine G_goto (tgt := 119) C dX5_grow_66 (by decide) ?_
        exact G_sub (lv' := [(0, .ref (o + 8)), (4, .int (z.1 6))]) [1, 0] rfl (J119 z11 (z.1 6) h)
    · replace h := z_in hc h
      obtain rfl := Option.some.inj h
      exact G_vret C dX5_grow_18 (fun _ h => h)
theorem tX5_grow_8 (κ : KK) (l : Launch) (o : Nat) : ∀ (n : Nat) (z : CS) (a2 : Int32) (a3 : Int32) (q : CS), fX5_grow_8 n o z a2 a3 = some q → MM κ l yX5_grow cX5_grow 6 none (rmX5_grow_8 n) (CA o) [.ref (o + 8), .ref (o + 5), .int a2, .int a3] (CB κ o z) none (CB κ o q) := by
  intro n
  induction n with
  | zero => intro z a2 a3 q h; cases h
  | succ n ih => intro z a2 a3 q h; exact tX5_grow_8_B κ l o (fX5_grow_8 n o) n ih z a2 a3 q h
theorem dX5_growBy_0 : decode cX5_growBy 0 = .ok (.aload_n 0, 1) := by decide +kernel
theorem dX5_growBy_1 : decode cX5_growBy 1 = .ok (.iconst 0, 1) := by decide +kernel
theorem dX5_growBy_2 : decode cX5_growBy 2 = .ok (.putfield 21, 3) := by decide +kernel
theorem dX5_growBy_5 : decode cX5_growBy 5 = .ok (.aload_n 0, 1) := by decide +kernel
theorem dX5_growBy_6 : decode cX5_growBy 6 = .ok (.aload_n 1, 1) := by decide +kernel
theorem dX5_growBy_7 : decode cX5_growBy 7 = .ok (.aload_n 1, 1) := by decide +kernel
theorem dX5_growBy_8 : decode cX5_growBy 8 = .ok (.getfield 25, 3) := by decide +kernel
theorem dX5_growBy_11 : decode cX5_growBy 11 = .ok (.iconst 0, 1) := by decide +kernel
theorem dX5_growBy_12 : decode cX5_growBy 12 = .ok (.invokevirtual 30, 3) := by decide +kernel
theorem dX5_growBy_15 : decode cX5_growBy 15 = .ok (.return_, 1) := by decide +kernel
theorem yd_X5_growBy : yX5_growBy.cls = RX5 ∧ yX5_growBy.cls ≠ "java/lang/invoke/MethodHandle" ∧ yX5_growBy.cls ≠ "java/lang/invoke/VarHandle" ∧ (parseMethodDescriptor yX5_growBy.desc).map (fun d => d.parameters.length) = some 1 := by decide +kernel
abbrev rmX5_growBy_8 : Room := { frames := 28, cells := 0, slots := 0, locals := 699 }
def fX5_growBy_8 (o : Nat) (z : CS) : Option (CS) :=
  (fX5_grow_8 24 o (cI z 6 (0 : Int32)) ((cI z 6 (0 : Int32)).1 5) (0 : Int32)).bind fun q1 =>
  some q1
set_option maxHeartbeats 4000000 in
set_option maxRecDepth 100000 in
theorem tX5_growBy_8 (κ : KK) (l : Launch) (o : Nat) (z : CS) (q : CS) (h : fX5_growBy_8 o z = some q) : MM κ l yX5_growBy cX5_growBy 2 none rmX5_growBy_8 (CA o) [.ref (o + 8), .ref (o + 5)] (CB κ o z) none (CB κ o q) := by
  refine MM.of (by decide +kernel) (Nat.le_of_ble_eq_true rfl) ?_
  intro p e s m below meth c C hnm
  unfold fX5_growBy_8 at h
  refine G_sub (lv' := [(0, .ref (o + 8)), (1, .ref (o + 5))]) [0, 1] rfl ?_
  refine G_aload_n (pc' := 1) C dX5_growBy_0 0 rfl rfl ?_
  refine G_iconst (pc' := 2) (v := (0 : Int32)) C dX5_growBy_1 (by decide) rfl ?_
  refine G_put (pc' := 5) (k := 3) C fi_X5 dX5_growBy_2 tw_fl_X5_21 rfl (by decide) rfl rfl rfl (Nat.le_of_ble_eq_true rfl) (CB_rd 8 rfl) (CB_wr (cI z 6 (0 : Int32)) 8 (by decide) rfl rfl) rfl ?_
  refine G_aload_n (pc' := 6) C dX5_growBy_5 0 rfl rfl ?_
  refine G_aload_n (pc' := 7) C dX5_growBy_6 1 rfl rfl ?_
  refine G_aload_n (pc' := 8) C dX5_growBy_7 1 rfl rfl ?_
  refine G_get (pc' := 11) (k := 4) C fi_X1 dX5_growBy_8 tw_fl_X5_25 rfl (by decide) (CB_rd 5 rfl) rfl rfl ?_
  refine G_iconst (pc' := 12) (v := (0 : Int32)) C dX5_growBy_11 (by decide) rfl ?_
  replace h := ob h
  obtain ⟨q1, hq1, h⟩ := h
  refine G_cV0 (pc' := 15) C dX5_growBy_12 (tX5_grow_8 κ l o 24 (cI z 6 (0 : Int32)) ((cI z 6 (0 : Int32)).1 5) (0 : Int32) q1 hq1) (wV tw_ml_X5_30 tw_im_X5_grow tw_se_X5_X5_grow tw_in_X5 tw_co_X5_grow) yd_X5_grow rfl fi_X5 (CB_rd 8 rfl) rfl rfl (by decide) rfl (Nat.le_of_ble_eq_true rfl) rfl rfl ?_
  refine G_widen (k := rmX5_growBy_8.cells) (n := rmX5_growBy_8.slots) (by decide) (by decide) ?_
  obtain rfl := Option.some.inj h
  exact G_vret C dX5_growBy_15 (fun _ h => h)
theorem dX9_tree_0 : decode cX9_tree 0 = .ok (.iload_n 2, 1) := by decide +kernel
theorem dX9_tree_1 : decode cX9_tree 1 = .ok (.ifCond .lt 8, 3) := by decide +kernel
theorem dX9_tree_4 : decode cX9_tree 4 = .ok (.iload_n 2, 1) := by decide +kernel
theorem dX9_tree_5 : decode cX9_tree 5 = .ok (.iconst 1, 1) := by decide +kernel
theorem dX9_tree_6 : decode cX9_tree 6 = .ok (.if_icmp .le 8, 3) := by decide +kernel
theorem dX9_tree_9 : decode cX9_tree 9 = .ok (.bipush (-2), 2) := by decide +kernel
theorem dX9_tree_11 : decode cX9_tree 11 = .ok (.goto 8, 3) := by decide +kernel
theorem dX9_tree_14 : decode cX9_tree 14 = .ok (.aload_n 0, 1) := by decide +kernel
theorem dX9_tree_15 : decode cX9_tree 15 = .ok (.iload_n 1, 1) := by decide +kernel
theorem dX9_tree_16 : decode cX9_tree 16 = .ok (.invokevirtual 145, 3) := by decide +kernel
theorem dX9_tree_19 : decode cX9_tree 19 = .ok (.istore_n 3, 1) := by decide +kernel
theorem dX9_tree_20 : decode cX9_tree 20 = .ok (.iload_n 3, 1) := by decide +kernel
theorem dX9_tree_21 : decode cX9_tree 21 = .ok (.ifCond .eq 5, 3) := by decide +kernel
theorem dX9_tree_24 : decode cX9_tree 24 = .ok (.iload_n 3, 1) := by decide +kernel
theorem dX9_tree_25 : decode cX9_tree 25 = .ok (.ireturn, 1) := by decide +kernel
theorem dX9_tree_26 : decode cX9_tree 26 = .ok (.aload_n 0, 1) := by decide +kernel
theorem dX9_tree_27 : decode cX9_tree 27 = .ok (.getfield 31, 3) := by decide +kernel
theorem dX9_tree_30 : decode cX9_tree 30 = .ok (.aload_n 0, 1) := by decide +kernel
theorem dX9_tree_31 : decode cX9_tree 31 = .ok (.getfield 17, 3) := by decide +kernel
theorem dX9_tree_34 : decode cX9_tree 34 = .ok (.iload_n 1, 1) := by decide +kernel
theorem dX9_tree_35 : decode cX9_tree 35 = .ok (.aaload, 1) := by decide +kernel
theorem dX9_tree_36 : decode cX9_tree 36 = .ok (.iload_n 2, 1) := by decide +kernel
theorem dX9_tree_37 : decode cX9_tree 37 = .ok (.iconst 1, 1) := by decide +kernel
theorem dX9_tree_38 : decode cX9_tree 38 = .ok (.if_icmp .ne 7, 3) := by decide +kernel
theorem dX9_tree_41 : decode cX9_tree 41 = .ok (.iconst 1, 1) := by decide +kernel
theorem dX9_tree_42 : decode cX9_tree 42 = .ok (.goto 4, 3) := by decide +kernel
theorem dX9_tree_45 : decode cX9_tree 45 = .ok (.iconst 0, 1) := by decide +kernel
theorem dX9_tree_46 : decode cX9_tree 46 = .ok (.invokevirtual 224, 3) := by decide +kernel
theorem dX9_tree_49 : decode cX9_tree 49 = .ok (.aload_n 0, 1) := by decide +kernel
theorem dX9_tree_50 : decode cX9_tree 50 = .ok (.getfield 40, 3) := by decide +kernel
theorem dX9_tree_53 : decode cX9_tree 53 = .ok (.aload_n 0, 1) := by decide +kernel
theorem dX9_tree_54 : decode cX9_tree 54 = .ok (.getfield 31, 3) := by decide +kernel
theorem dX9_tree_57 : decode cX9_tree 57 = .ok (.invokevirtual 231, 3) := by decide +kernel
theorem dX9_tree_60 : decode cX9_tree 60 = .ok (.aload_n 0, 1) := by decide +kernel
theorem dX9_tree_61 : decode cX9_tree 61 = .ok (.getfield 40, 3) := by decide +kernel
theorem dX9_tree_64 : decode cX9_tree 64 = .ok (.getfield 235, 3) := by decide +kernel
theorem dX9_tree_67 : decode cX9_tree 67 = .ok (.ireturn, 1) := by decide +kernel
theorem yd_X9_tree : yX9_tree.cls = RX9 ∧ yX9_tree.cls ≠ "java/lang/invoke/MethodHandle" ∧ yX9_tree.cls ≠ "java/lang/invoke/VarHandle" ∧ (parseMethodDescriptor yX9_tree.desc).map (fun d => d.parameters.length) = some 2 := by decide +kernel
abbrev rmX9_tree : Room := { frames := 29, cells := 0, slots := 0, locals := 720 }
def fX9_tree_J46 (o : Nat) (z : CS) (s0 : Int32) (s1 : Option Nat) : Option (Int32 × CS) :=
  (s1).bind fun ad2 =>
  (fX1_weigh_5 o z ad2 s0).bind fun q3 =>
  (fX5_growBy_8 o q3 ).bind fun q4 =>
  some ((q4.1 6), q4)
def fX9_tree_J19 (o : Nat) (z : CS) (l1 : Int32) (l2 : Int32) (s0 : Int32) : Option (Int32 × CS) :=
  if s0 = 0 then
    (aQ 8 (z.2.2.1 1) l1).bind fun v1 =>
    if l2 = (1 : Int32) then
      fX9_tree_J46 o z (1 : Int32) v1
    else
      fX9_tree_J46 o z (0 : Int32) v1
  else
    some (s0, z)
def fX9_tree_J9 (o : Nat) (z : CS) (l1 : Int32) (l2 : Int32) : Option (Int32 × CS) :=
  fX9_tree_J19 o z l1 l2 (-2 : Int32)
def fX9_tree (o : Nat) (z : CS) (a1 : Int32) (a2 : Int32) : Option (Int32 × CS) :=
  if a2 < 0 then
    fX9_tree_J9 o z a1 a2
  else
    if a2 ≤ (1 : Int32) then
      (fX9_findingOfTask o z a1).bind fun q5 =>
      fX9_tree_J19 o q5.2 a1 a2 q5.1
    else
      fX9_tree_J9 o z a1 a2
set_option maxHeartbeats 4000000 in
set_option maxRecDepth 100000 in
theorem tX9_tree (κ : KK) (l : Launch) (o : Nat) (z : CS) (a1 : Int32) (a2 : Int32) (q : Int32 × CS) (h : fX9_tree o z a1 a2 = some q) : MM κ l yX9_tree cX9_tree 4 (some .int) rmX9_tree (CA o) [.ref o, .int a1, .int a2] (CB κ o z) (some (Value.int q.1)) (CB κ o q.2) := by
  refine MM.of (by decide +kernel) (Nat.le_of_ble_eq_true rfl) ?_
  intro p e s m below meth c C hnm
  have J46 : ∀ (z : CS) (s0 : Int32) (s1 : Option Nat), fX9_tree_J46 o z s0 s1 = some q → GC κ p l e s m ([.ref o, .int a1, .int a2] : List Value).toArray below meth c rmX9_tree 4 o (some (Value.int q.1)) (CB κ o q.2) 0 0 z 46 [(0, .ref o)] [.int s0, va_rf s1, .ref (o + 5)] := by
    intro z s0 s1 h
    unfold fX9_tree_J46 at h
    replace h := ob h
    obtain ⟨ad2, had2, h⟩ := h
    subst had2
    replace h := ob h
    obtain ⟨q3, hq3, h⟩ := h
    refine G_cV0 (pc' := 49) C dX9_tree_46 (tX1_weigh_5 κ l o z ad2 s0 q3 hq3) (wV tw_ml_X9_224 tw_im_X1_weigh tw_se_X1_X1_weigh tw_in_X1 tw_co_X1_weigh) yd_X1_weigh rfl fi_X1 (CB_rd 5 rfl) rfl rfl (by decide) rfl (Nat.le_of_ble_eq_true rfl) rfl rfl ?_
    refine G_aload_n (pc' := 50) C dX9_tree_49 0 rfl rfl ?_
    refine G_get (pc' := 53) (k := 5) C fi_X9 dX9_tree_50 tw_fl_X9_40 rfl (by decide) (CB_rd 0 rfl) rfl rfl ?_
    refine G_aload_n (pc' := 54) C dX9_tree_53 0 rfl rfl ?_
    refine G_get (pc' := 57) (k := 4) C fi_X9 dX9_tree_54 tw_fl_X9_31 rfl (by decide) (CB_rd 0 rfl) rfl rfl ?_
    replace h := ob h
    obtain ⟨q4, hq4, h⟩ := h
    refine G_cV0 (pc' := 60) C dX9_tree_57 (tX5_growBy_8 κ l o q3  q4 hq4) (wV tw_ml_X9_231 tw_im_X5_growBy tw_se_X5_X5_growBy tw_in_X5 tw_co_X5_growBy) yd_X5_growBy rfl fi_X5 (CB_rd 8 rfl) rfl rfl (by decide) rfl (Nat.le_of_ble_eq_true rfl) rfl rfl ?_
    refine G_aload_n (pc' := 61) C dX9_tree_60 0 rfl rfl ?_
    refine G_get (pc' := 64) (k := 5) C fi_X9 dX9_tree_61 tw_fl_X9_40 rfl (by decide) (CB_rd 0 rfl) rfl rfl ?_
    refine G_get (pc' := 67) (k := 3) C fi_X5 dX9_tree_64 tw_fl_X9_235 rfl (by decide) (CB_rd 8 rfl) rfl rfl ?_
    refine G_widen (k := rmX9_tree.cells) (n := rmX9_tree.slots) (by decide) (by decide) ?_
    obtain rfl := Option.some.inj h
    exact G_iret C dX9_tree_67 (fun _ h => h)
  have J19 : ∀ (z : CS) (l1 : Int32) (l2 : Int32) (s0 : Int32), fX9_tree_J19 o z l1 l2 s0 = some q → GC κ p l e s m ([.ref o, .int a1, .int a2] : List Value).toArray below meth c rmX9_tree 4 o (some (Value.int q.1)) (CB κ o q.2) 0 0 z 19 [(0, .ref o), (1, .int l1), (2, .int l2)] [.int s0] := by
    intro z l1 l2 s0 h
    unfold fX9_tree_J19 at h
    refine G_istore_n (pc' := 20) C dX9_tree_19 [(3, .int s0), (0, .ref o), (1, .int l1), (2, .int l2)] (by decide) rfl rfl ?_
    refine G_iload_n (pc' := 21) C dX9_tree_20 0 rfl rfl ?_
    refine G_if_eq (tgt := 26) (pc' := 24) C dX9_tree_21 (by decide) rfl (fun hc => ?_) (fun hc => ?_)
    · replace h := z_ip hc h
      refine G_aload_n (pc' := 27) C dX9_tree_26 1 rfl rfl ?_
      refine G_get (pc' := 30) (k := 4) C fi_X9 dX9_tree_27 tw_fl_X9_31 rfl (by decide) (CB_rd 0 rfl) rfl rfl ?_
      refine G_aload_n (pc' := 31) C dX9_tree_30 1 rfl rfl ?_
      refine G_get (pc' := 34) (k := 1) C fi_X9 dX9_tree_31 tw_fl_X9_17 rfl (by decide) (CB_rd 0 rfl) rfl rfl ?_
      refine G_iload_n (pc' := 35) C dX9_tree_34 2 rfl rfl ?_
      replace h := ob h
      obtain ⟨v1, hv1, h⟩ := h
      refine G_aald5V (pc' := 36) C dX9_tree_35 (CB_rd 2 rfl) hv1 rfl ?_
      refine G_iload_n (pc' := 37) C dX9_tree_36 3 rfl rfl ?_
      refine G_iconst (pc' := 38) (v := (1 : Int32)) C dX9_tree_37 (by decide) rfl ?_
      refine G_icmp_ne (tgt := 45) (pc' := 41) C dX9_tree_38 (by decide) rfl (fun hc => ?_) (fun hc => ?_)
      · replace h := z_in hc h
        refine G_iconst (pc' := 46) (v := (0 : Int32)) C dX9_tree_45 (by decide) rfl ?_
        exact G_sub (lv' := [(0, .ref o)]) [1] rfl (J46 z (0 : Int32) v1 h)
      · replace h := z_ip hc h
        refine G_iconst (pc' := 42) (v := (1 : Int32)) C dX9_tree_41 (by decide) rfl ?_
        refine G_goto (tgt := 46) C dX9_tree_42 (by decide) ?_
        exact G_sub (lv' := [(0, .ref o)]) [1] rfl (J46 z (1 : Int32) v1 h)
    · replace h := z_in hc h
      refine G_iload_n (pc' := 25) C dX9_tree_24 0 rfl rfl ?_
      refine G_widen (k := rmX9_tree.cells) (n := rmX9_tree.slots) (by decide) (by decide) ?_
      obtain rfl := Option.some.inj h
      exact G_iret C dX9_tree_25 (fun _ h => h)
  have J9 : ∀ (z : CS) (l1 : Int32) (l2 : Int32), fX9_tree_J9 o z l1 l2 = some q → GC κ p l e s m ([.ref o, .int a1, .int a2] : List Value).toArray below meth c rmX9_tree 4 o (some (Value.int q.1)) (CB κ o q.2) 0 0 z 9 [(0, .ref o), (1, .int l1), (2, .int l2)] [] := by
    intro z l1 l2 h
    unfold fX9_tree_J9 at h
    refine G_bipush (pc' := 11) (v := (-2 : Int32)) C dX9_tree_9 (by decide) rfl ?_
    refine G_goto (tgt := 19) C dX9_tree_11 (by decide) ?_
    exact G_sub (lv' := [(0, .ref o), (1, .int l1), (2, .int l2)]) [0, 1, 2] rfl (J19 z l1 l2 (-2 : Int32) h)
  unfold fX9_tree at h
  refine G_sub (lv' := [(0, .ref o), (1, .int a1), (2, .int a2)]) [0, 1, 2] rfl ?_
  refine G_iload_n (pc' := 1) C dX9_tree_0 2 rfl rfl ?_
  refine G_if_lt (tgt := 9) (pc' := 4) C dX9_tree_1 (by decide) rfl (fun hc => ?_) (fun hc => ?_)
  · replace h := z_ip hc h
    exact G_sub (lv' := [(0, .ref o), (1, .int a1), (2, .int a2)]) [0, 1, 2] rfl (J9 z a1 a2 h)
  · replace h := z_in hc h
    refine G_iload_n (pc' := 5) C dX9_tree_4 2 rfl rfl ?_
    refine G_iconst (pc' := 6) (v := (1 : Int32)) C dX9_tree_5 (by decide) rfl ?_
    refine G_icmp_le (tgt := 14) (pc' := 9) C dX9_tree_6 (by decide) rfl (fun hc => ?_) (fun hc => ?_)
    · replace h := z_ip hc h
      refine G_aload_n (pc' := 15) C dX9_tree_14 0 rfl rfl ?_
      refine G_iload_n (pc' := 16) C dX9_tree_15 1 rfl rfl ?_
      replace h := ob h
      obtain ⟨q5, hq5, h⟩ := h
      refine G_cV0 (pc' := 19) C dX9_tree_16 (tX9_findingOfTask κ l o z a1 q5 hq5) (wV tw_ml_X9_145 tw_im_X9_findingOfTask tw_se_X9_X9_findingOfTask tw_in_X9 tw_co_X9_findingOfTask) yd_X9_findingOfTask rfl fi_X9 (CB_rd 0 rfl) rfl rfl (by decide) rfl (Nat.le_of_ble_eq_true rfl) rfl rfl ?_
      exact G_sub (lv' := [(0, .ref o), (1, .int a1), (2, .int a2)]) [0, 1, 2] rfl (J19 q5.2 a1 a2 q5.1 h)
    · replace h := z_in hc h
      exact G_sub (lv' := [(0, .ref o), (1, .int a1), (2, .int a2)]) [0, 1, 2] rfl (J9 z a1 a2 h)
theorem dX5_isLook_0 : decode cX5_isLook 0 = .ok (.aload_n 0, 1) := by decide +kernel
theorem dX5_isLook_1 : decode cX5_isLook 1 = .ok (.getfield 9, 3) := by decide +kernel
theorem dX5_isLook_4 : decode cX5_isLook 4 = .ok (.iload_n 1, 1) := by decide +kernel
theorem dX5_isLook_5 : decode cX5_isLook 5 = .ok (.iaload, 1) := by decide +kernel
theorem dX5_isLook_6 : decode cX5_isLook 6 = .ok (.bipush 20, 2) := by decide +kernel
theorem dX5_isLook_8 : decode cX5_isLook 8 = .ok (.if_icmp .ge 7, 3) := by decide +kernel
theorem dX5_isLook_11 : decode cX5_isLook 11 = .ok (.iconst 1, 1) := by decide +kernel
theorem dX5_isLook_12 : decode cX5_isLook 12 = .ok (.goto 4, 3) := by decide +kernel
theorem dX5_isLook_15 : decode cX5_isLook 15 = .ok (.iconst 0, 1) := by decide +kernel
theorem dX5_isLook_16 : decode cX5_isLook 16 = .ok (.ireturn, 1) := by decide +kernel
theorem yd_X5_isLook : yX5_isLook.cls = RX5 ∧ yX5_isLook.cls ≠ "java/lang/invoke/MethodHandle" ∧ yX5_isLook.cls ≠ "java/lang/invoke/VarHandle" ∧ (parseMethodDescriptor yX5_isLook.desc).map (fun d => d.parameters.length) = some 1 := by decide +kernel
abbrev rmX5_isLook_8 : Room := { frames := 0, cells := 0, slots := 0, locals := 0 }
def fX5_isLook_8 (o : Nat) (z : CS) (a1 : Int32) : Option (Int32) :=
  (aI 511 (z.2.1 3) a1).bind fun v1 =>
  if (20 : Int32) ≤ v1 then
    some (0 : Int32)
  else
    some (1 : Int32)
set_option maxHeartbeats 4000000 in
set_option maxRecDepth 100000 in
theorem tX5_isLook_8 (κ : KK) (l : Launch) (o : Nat) (z : CS) (a1 : Int32) (q : Int32) (h : fX5_isLook_8 o z a1 = some q) : MM κ l yX5_isLook cX5_isLook 2 (some .boolean) rmX5_isLook_8 (CA o) [.ref (o + 8), .int a1] (CB κ o z) (some (Value.int q)) (CB κ o z) := by
  refine MM.of (by decide +kernel) (Nat.le_of_ble_eq_true rfl) ?_
  intro p e s m below meth c C hnm
  unfold fX5_isLook_8 at h
  refine G_sub (lv' := [(0, .ref (o + 8)), (1, .int a1)]) [0, 1] rfl ?_
  refine G_aload_n (pc' := 1) C dX5_isLook_0 0 rfl rfl ?_
  refine G_get (pc' := 4) (k := 0) C fi_X5 dX5_isLook_1 tw_fl_X5_9 rfl (by decide) (CB_rd 8 rfl) rfl rfl ?_
  refine G_iload_n (pc' := 5) C dX5_isLook_4 1 rfl rfl ?_
  replace h := ob h
  obtain ⟨v1, hv1, h⟩ := h
  refine G_ialdV (pc' := 6) C dX5_isLook_5 (CB_rd 9 rfl) hv1 rfl ?_
  refine G_bipush (pc' := 8) (v := (20 : Int32)) C dX5_isLook_6 (by decide) rfl ?_
  refine G_icmp_ge (tgt := 15) (pc' := 11) C dX5_isLook_8 (by decide) rfl (fun hc => ?_) (fun hc => ?_)
  · replace h := z_ip hc h
    refine G_iconst (pc' := 16) (v := (0 : Int32)) C dX5_isLook_15 (by decide) rfl ?_
    obtain rfl := Option.some.inj h
    exact G_zret (v := (0 : Int32)) C rfl dX5_isLook_16 (fun _ h => h)
  · replace h := z_in hc h
    refine G_iconst (pc' := 12) (v := (1 : Int32)) C dX5_isLook_11 (by decide) rfl ?_
    refine G_goto (tgt := 16) C dX5_isLook_12 (by decide) ?_
    obtain rfl := Option.some.inj h
    exact G_zret (v := (1 : Int32)) C rfl dX5_isLook_16 (fun _ h => h)
theorem dX5_branch_0 : decode cX5_branch 0 = .ok (.iload_n 2, 1) := by decide +kernel
theorem dX5_branch_1 : decode cX5_branch 1 = .ok (.ifCond .ne 9, 3) := by decide +kernel
theorem dX5_branch_4 : decode cX5_branch 4 = .ok (.iload_n 1, 1) := by decide +kernel
theorem dX5_branch_5 : decode cX5_branch 5 = .ok (.iconst 1, 1) := by decide +kernel
theorem dX5_branch_6 : decode cX5_branch 6 = .ok (.iadd, 1) := by decide +kernel
theorem dX5_branch_7 : decode cX5_branch 7 = .ok (.goto 11, 3) := by decide +kernel
theorem dX5_branch_10 : decode cX5_branch 10 = .ok (.aload_n 0, 1) := by decide +kernel
theorem dX5_branch_11 : decode cX5_branch 11 = .ok (.getfield 18, 3) := by decide +kernel
theorem dX5_branch_14 : decode cX5_branch 14 = .ok (.iload_n 1, 1) := by decide +kernel
theorem dX5_branch_15 : decode cX5_branch 15 = .ok (.iconst 1, 1) := by decide +kernel
theorem dX5_branch_16 : decode cX5_branch 16 = .ok (.iadd, 1) := by decide +kernel
theorem dX5_branch_17 : decode cX5_branch 17 = .ok (.iaload, 1) := by decide +kernel
theorem dX5_branch_18 : decode cX5_branch 18 = .ok (.ireturn, 1) := by decide +kernel
theorem yd_X5_branch : yX5_branch.cls = RX5 ∧ yX5_branch.cls ≠ "java/lang/invoke/MethodHandle" ∧ yX5_branch.cls ≠ "java/lang/invoke/VarHandle" ∧ (parseMethodDescriptor yX5_branch.desc).map (fun d => d.parameters.length) = some 2 := by decide +kernel
abbrev rmX5_branch_8 : Room := { frames := 0, cells := 0, slots := 0, locals := 0 }
def fX5_branch_8 (o : Nat) (z : CS) (a1 : Int32) (a2 : Int32) : Option (Int32) :=
  if a2 = 0 then
    some (a1 + (1 : Int32))
  else
    (aI 511 (z.2.1 5) (a1 + (1 : Int32))).bind fun v1 =>
    some v1
set_option maxHeartbeats 4000000 in
set_option maxRecDepth 100000 in
theorem tX5_branch_8 (κ : KK) (l : Launch) (o : Nat) (z : CS) (a1 : Int32) (a2 : Int32) (q : Int32) (h : fX5_branch_8 o z a1 a2 = some q) : MM κ l yX5_branch cX5_branch 3 (some .int) rmX5_branch_8 (CA o) [.ref (o + 8), .int a1, .int a2] (CB κ o z) (some (Value.int q)) (CB κ o z) := by
  refine MM.of (by decide +kernel) (Nat.le_of_ble_eq_true rfl) ?_
  intro p e s m below meth c C hnm
  unfold fX5_branch_8 at h
  refine G_sub (lv' := [(0, .ref (o + 8)), (1, .int a1), (2, .int a2)]) [0, 1, 2] rfl ?_
  refine G_iload_n (pc' := 1) C dX5_branch_0 2 rfl rfl ?_
  refine G_if_ne (tgt := 10) (pc' := 4) C dX5_branch_1 (by decide) rfl (fun hc => ?_) (fun hc => ?_)
  · replace h := z_in hc h
    refine G_aload_n (pc' := 11) C dX5_branch_10 0 rfl rfl ?_
    refine G_get (pc' := 14) (k := 2) C fi_X5 dX5_branch_11 tw_fl_X5_18 rfl (by decide) (CB_rd 8 rfl) rfl rfl ?_
    refine G_iload_n (pc' := 15) C dX5_branch_14 1 rfl rfl ?_
    refine G_iconst (pc' := 16) (v := (1 : Int32)) C dX5_branch_15 (by decide) rfl ?_
    refine G_iadd (pc' := 17) C dX5_branch_16 rfl ?_
    replace h := ob h
    obtain ⟨v1, hv1, h⟩ := h
    refine G_ialdV (pc' := 18) C dX5_branch_17 (CB_rd 11 rfl) hv1 rfl ?_
    obtain rfl := Option.some.inj h
    exact G_iret C dX5_branch_18 (fun _ h => h)
  · replace h := z_ip hc h
    refine G_iload_n (pc' := 5) C dX5_branch_4 1 rfl rfl ?_
    refine G_iconst (pc' := 6) (v := (1 : Int32)) C dX5_branch_5 (by decide) rfl ?_
    refine G_iadd (pc' := 7) C dX5_branch_6 rfl ?_
    refine G_goto (tgt := 18) C dX5_branch_7 (by decide) ?_
    obtain rfl := Option.some.inj h
    exact G_iret C dX5_branch_18 (fun _ h => h)
theorem dX9_node_0 : decode cX9_node 0 = .ok (.iload_n 1, 1) := by decide +kernel
theorem dX9_node_1 : decode cX9_node 1 = .ok (.ifCond .lt 23, 3) := by decide +kernel
theorem dX9_node_4 : decode cX9_node 4 = .ok (.iload_n 1, 1) := by decide +kernel
theorem dX9_node_5 : decode cX9_node 5 = .ok (.aload_n 0, 1) := by decide +kernel
theorem dX9_node_6 : decode cX9_node 6 = .ok (.getfield 40, 3) := by decide +kernel
theorem dX9_node_9 : decode cX9_node 9 = .ok (.getfield 235, 3) := by decide +kernel
theorem dX9_node_12 : decode cX9_node 12 = .ok (.if_icmp .ge 12, 3) := by decide +kernel
theorem dX9_node_15 : decode cX9_node 15 = .ok (.iload_n 2, 1) := by decide +kernel
theorem dX9_node_16 : decode cX9_node 16 = .ok (.ifCond .lt 8, 3) := by decide +kernel
theorem dX9_node_19 : decode cX9_node 19 = .ok (.iload_n 2, 1) := by decide +kernel
theorem dX9_node_20 : decode cX9_node 20 = .ok (.iconst 3, 1) := by decide +kernel
theorem dX9_node_21 : decode cX9_node 21 = .ok (.if_icmp .le 6, 3) := by decide +kernel
theorem dX9_node_24 : decode cX9_node 24 = .ok (.bipush (-2), 2) := by decide +kernel
theorem dX9_node_26 : decode cX9_node 26 = .ok (.ireturn, 1) := by decide +kernel
theorem dX9_node_27 : decode cX9_node 27 = .ok (.iload_n 2, 1) := by decide +kernel
theorem dX9_node_28 : decode cX9_node 28 = .ok (.tableswitch 73 0 2 #[28, 38, 48], 28) := by decide +kernel
theorem dX9_node_56 : decode cX9_node 56 = .ok (.aload_n 0, 1) := by decide +kernel
theorem dX9_node_57 : decode cX9_node 57 = .ok (.getfield 40, 3) := by decide +kernel
theorem dX9_node_60 : decode cX9_node 60 = .ok (.getfield 238, 3) := by decide +kernel
theorem dX9_node_63 : decode cX9_node 63 = .ok (.iload_n 1, 1) := by decide +kernel
theorem dX9_node_64 : decode cX9_node 64 = .ok (.iaload, 1) := by decide +kernel
theorem dX9_node_65 : decode cX9_node 65 = .ok (.ireturn, 1) := by decide +kernel
theorem dX9_node_66 : decode cX9_node 66 = .ok (.aload_n 0, 1) := by decide +kernel
theorem dX9_node_67 : decode cX9_node 67 = .ok (.getfield 40, 3) := by decide +kernel
theorem dX9_node_70 : decode cX9_node 70 = .ok (.getfield 241, 3) := by decide +kernel
theorem dX9_node_73 : decode cX9_node 73 = .ok (.iload_n 1, 1) := by decide +kernel
theorem dX9_node_74 : decode cX9_node 74 = .ok (.iaload, 1) := by decide +kernel
theorem dX9_node_75 : decode cX9_node 75 = .ok (.ireturn, 1) := by decide +kernel
theorem dX9_node_76 : decode cX9_node 76 = .ok (.aload_n 0, 1) := by decide +kernel
theorem dX9_node_77 : decode cX9_node 77 = .ok (.getfield 40, 3) := by decide +kernel
theorem dX9_node_80 : decode cX9_node 80 = .ok (.iload_n 1, 1) := by decide +kernel
theorem dX9_node_81 : decode cX9_node 81 = .ok (.invokevirtual 244, 3) := by decide +kernel
theorem dX9_node_84 : decode cX9_node 84 = .ok (.ifCond .eq 15, 3) := by decide +kernel
theorem dX9_node_87 : decode cX9_node 87 = .ok (.aload_n 0, 1) := by decide +kernel
theorem dX9_node_88 : decode cX9_node 88 = .ok (.getfield 40, 3) := by decide +kernel
theorem dX9_node_91 : decode cX9_node 91 = .ok (.iload_n 1, 1) := by decide +kernel
theorem dX9_node_92 : decode cX9_node 92 = .ok (.iconst 0, 1) := by decide +kernel
theorem dX9_node_93 : decode cX9_node 93 = .ok (.invokevirtual 247, 3) := by decide +kernel
theorem dX9_node_96 : decode cX9_node 96 = .ok (.goto 4, 3) := by decide +kernel
theorem dX9_node_99 : decode cX9_node 99 = .ok (.iconst (-1), 1) := by decide +kernel
theorem dX9_node_100 : decode cX9_node 100 = .ok (.ireturn, 1) := by decide +kernel
theorem dX9_node_101 : decode cX9_node 101 = .ok (.aload_n 0, 1) := by decide +kernel
theorem dX9_node_102 : decode cX9_node 102 = .ok (.getfield 40, 3) := by decide +kernel
theorem dX9_node_105 : decode cX9_node 105 = .ok (.iload_n 1, 1) := by decide +kernel
theorem dX9_node_106 : decode cX9_node 106 = .ok (.invokevirtual 244, 3) := by decide +kernel
theorem dX9_node_109 : decode cX9_node 109 = .ok (.ifCond .eq 15, 3) := by decide +kernel
theorem dX9_node_112 : decode cX9_node 112 = .ok (.aload_n 0, 1) := by decide +kernel
theorem dX9_node_113 : decode cX9_node 113 = .ok (.getfield 40, 3) := by decide +kernel
theorem dX9_node_116 : decode cX9_node 116 = .ok (.iload_n 1, 1) := by decide +kernel
theorem dX9_node_117 : decode cX9_node 117 = .ok (.iconst 1, 1) := by decide +kernel
theorem dX9_node_118 : decode cX9_node 118 = .ok (.invokevirtual 247, 3) := by decide +kernel
theorem dX9_node_121 : decode cX9_node 121 = .ok (.goto 4, 3) := by decide +kernel
theorem dX9_node_124 : decode cX9_node 124 = .ok (.iconst (-1), 1) := by decide +kernel
theorem dX9_node_125 : decode cX9_node 125 = .ok (.ireturn, 1) := by decide +kernel
theorem yd_X9_node : yX9_node.cls = RX9 ∧ yX9_node.cls ≠ "java/lang/invoke/MethodHandle" ∧ yX9_node.cls ≠ "java/lang/invoke/VarHandle" ∧ (parseMethodDescriptor yX9_node.desc).map (fun d => d.parameters.length) = some 2 := by decide +kernel
abbrev rmX9_node : Room := { frames := 1, cells := 0, slots := 0, locals := 22 }
def fX9_node_J24 (o : Nat) (z : CS) : Option (Int32) :=
  some (-2 : Int32)
def fX9_node (o : Nat) (z : CS) (a1 : Int32) (a2 : Int32) : Option (Int32) :=
  if a1 < 0 then
    fX9_node_J24 o z
  else
    if (z.1 6) ≤ a1 then
      fX9_node_J24 o z
    else
      if a2 < 0 then
        fX9_node_J24 o z
      else
        if a2 ≤ (3 : Int32) then
          if a2 = (0 : Int32) then
            (aI 511 (z.2.1 3) a1).bind fun v1 =>
            some v1
          else
          if a2 = (1 : Int32) then
            (aI 511 (z.2.1 4) a1).bind fun v2 =>
            some v2
          else
          if a2 = (2 : Int32) then
            (fX5_isLook_8 o z a1).bind fun q3 =>
            if q3 = 0 then
              some (-1 : Int32)
            else
              (fX5_branch_8 o z a1 (0 : Int32)).bind fun q4 =>
              some q4
          else
            (fX5_isLook_8 o z a1).bind fun q5 =>
            if q5 = 0 then
              some (-1 : Int32)
            else
              (fX5_branch_8 o z a1 (1 : Int32)).bind fun q6 =>
              some q6
        else
          fX9_node_J24 o z
set_option maxHeartbeats 4000000 in
set_option maxRecDepth 100000 in
theorem tX9_node (κ : KK) (l : Launch) (o : Nat) (z : CS) (a1 : Int32) (a2 : Int32) (q : Int32) (h : fX9_node o z a1 a2 = some q) : MM κ l yX9_node cX9_node 3 (some .int) rmX9_node (CA o) [.ref o, .int a1, .int a2] (CB κ o z) (some (Value.int q)) (CB κ o z) := by
  refine MM.of (by decide +kernel) (Nat.le_of_ble_eq_true rfl) ?_
  intro p e s m below meth c C hnm
  have J24 : fX9_node_J24 o z = some q → GC κ p l e s m ([.ref o, .int a1, .int a2] : List Value).toArray below meth c rmX9_node 3 o (some (Value.int q)) (CB κ o z) 0 0 z 24 [] [] := by
    intro  h
    unfold fX9_node_J24 at h
    refine G_bipush (pc' := 26) (v := (-2 : Int32)) C dX9_node_24 (by decide) rfl ?_
    obtain rfl := Option.some.inj h
    exact G_iret C dX9_node_26 (fun _ h => h)
  unfold fX9_node at h
  refine G_sub (lv' := [(0, .ref o), (1, .int a1), (2, .int a2)]) [0, 1, 2] rfl ?_
  refine G_iload_n (pc' := 1) C dX9_node_0 1 rfl rfl ?_
  refine G_if_lt (tgt := 24) (pc' := 4) C dX9_node_1 (by decide) rfl (fun hc => ?_) (fun hc => ?_)
  · replace h := z_ip hc h
    exact G_sub (lv' := []) [] rfl (J24  h)
  · replace h := z_in hc h
    refine G_iload_n (pc' := 5) C dX9_node_4 1 rfl rfl ?_
    refine G_aload_n (pc' := 6) C dX9_node_5 0 rfl rfl ?_
    refine G_get (pc' := 9) (k := 5) C fi_X9 dX9_node_6 tw_fl_X9_40 rfl (by decide) (CB_rd 0 rfl) rfl rfl ?_
    refine G_get (pc' := 12) (k := 3) C fi_X5 dX9_node_9 tw_fl_X9_235 rfl (by decide) (CB_rd 8 rfl) rfl rfl ?_
    refine G_icmp_ge (tgt := 24) (pc' := 15) C dX9_node_12 (by decide) rfl (fun hc => ?_) (fun hc => ?_)
    · replace h := z_ip hc h
      exact G_sub (lv' := []) [] rfl (J24  h)
    · replace h := z_in hc h
      refine G_iload_n (pc' := 16) C dX9_node_15 2 rfl rfl ?_
      refine G_if_lt (tgt := 24) (pc' := 19) C dX9_node_16 (by decide) rfl (fun hc => ?_) (fun hc => ?_)
      · replace h := z_ip hc h
        exact G_sub (lv' := []) [] rfl (J24  h)
      · replace h := z_in hc h
        refine G_iload_n (pc' := 20) C dX9_node_19 2 rfl rfl ?_
        refine G_iconst (pc' := 21) (v := (3 : Int32)) C dX9_node_20 (by decide) rfl ?_
        refine G_icmp_le (tgt := 27) (pc' := 24) C dX9_node_21 (by decide) rfl (fun hc => ?_) (fun hc => ?_)
        · replace h := z_ip hc h
          refine G_iload_n (pc' := 28) C dX9_node_27 2 rfl rfl ?_
          by_cases hc0 : a2 = (0 : Int32)
          · replace h := z_ip hc0 h
            refine G_tabIn (tgt := 56) C dX9_node_28 (by rw [hc0]; decide) (by rw [hc0]; decide) (by rw [hc0]; rfl) (by decide) ?_
            refine G_aload_n (pc' := 57) C dX9_node_56 0 rfl rfl ?_
            refine G_get (pc' := 60) (k := 5) C fi_X9 dX9_node_57 tw_fl_X9_40 rfl (by decide) (CB_rd 0 rfl) rfl rfl ?_
            refine G_get (pc' := 63) (k := 0) C fi_X5 dX9_node_60 tw_fl_X9_238 rfl (by decide) (CB_rd 8 rfl) rfl rfl ?_
            refine G_iload_n (pc' := 64) C dX9_node_63 1 rfl rfl ?_
            replace h := ob h
            obtain ⟨v1, hv1, h⟩ := h
            refine G_ialdV (pc' := 65) C dX9_node_64 (CB_rd 9 rfl) hv1 rfl ?_
            obtain rfl := Option.some.inj h
            exact G_iret C dX9_node_65 (fun _ h => h)
          replace h := z_in hc0 h
          by_cases hc1 : a2 = (1 : Int32)
          · replace h := z_ip hc1 h
            refine G_tabIn (tgt := 66) C dX9_node_28 (by rw [hc1]; decide) (by rw [hc1]; decide) (by rw [hc1]; rfl) (by decide) ?_
            refine G_aload_n (pc' := 67) C dX9_node_66 0 rfl rfl ?_
            refine G_get (pc' := 70) (k := 5) C fi_X9 dX9_node_67 tw_fl_X9_40 rfl (by decide) (CB_rd 0 rfl) rfl rfl ?_
            refine G_get (pc' := 73) (k := 1) C fi_X5 dX9_node_70 tw_fl_X9_241 rfl (by decide) (CB_rd 8 rfl) rfl rfl ?_
            refine G_iload_n (pc' := 74) C dX9_node_73 1 rfl rfl ?_
            replace h := ob h
            obtain ⟨v2, hv2, h⟩ := h
            refine G_ialdV (pc' := 75) C dX9_node_74 (CB_rd 10 rfl) hv2 rfl ?_
            obtain rfl := Option.some.inj h
            exact G_iret C dX9_node_75 (fun _ h => h)
          replace h := z_in hc1 h
          by_cases hc2 : a2 = (2 : Int32)
          · replace h := z_ip hc2 h
            refine G_tabIn (tgt := 76) C dX9_node_28 (by rw [hc2]; decide) (by rw [hc2]; decide) (by rw [hc2]; rfl) (by decide) ?_
            refine G_aload_n (pc' := 77) C dX9_node_76 0 rfl rfl ?_
            refine G_get (pc' := 80) (k := 5) C fi_X9 dX9_node_77 tw_fl_X9_40 rfl (by decide) (CB_rd 0 rfl) rfl rfl ?_
            refine G_iload_n (pc' := 81) C dX9_node_80 1 rfl rfl ?_
            replace h := ob h
            obtain ⟨q3, hq3, h⟩ := h
            refine G_cV0 (pc' := 84) C dX9_node_81 (tX5_isLook_8 κ l o z a1 q3 hq3) (wV tw_ml_X9_244 tw_im_X5_isLook tw_se_X5_X5_isLook tw_in_X5 tw_co_X5_isLook) yd_X5_isLook rfl fi_X5 (CB_rd 8 rfl) rfl rfl (by decide) rfl (Nat.le_of_ble_eq_true rfl) rfl rfl ?_
            refine G_if_eq (tgt := 99) (pc' := 87) C dX9_node_84 (by decide) rfl (fun hc => ?_) (fun hc => ?_)
            · replace h := z_ip hc h
              refine G_iconst (pc' := 100) (v := (-1 : Int32)) C dX9_node_99 (by decide) rfl ?_
              obtain rfl := Option.some.inj h
              exact G_iret C dX9_node_100 (fun _ h => h)
            · replace h := z_in hc h
              refine G_aload_n (pc' := 88) C dX9_node_87 0 rfl rfl ?_
              refine G_get (pc' := 91) (k := 5) C fi_X9 dX9_node_88 tw_fl_X9_40 rfl (by decide) (CB_rd 0 rfl) rfl rfl ?_
              refine G_iload_n (pc' := 92) C dX9_node_91 1 rfl rfl ?_
              refine G_iconst (pc' := 93) (v := (0 : Int32)) C dX9_node_92 (by decide) rfl ?_
              replace h := ob h
              obtain ⟨q4, hq4, h⟩ := h
              refine G_cV0 (pc' := 96) C dX9_node_93 (tX5_branch_8 κ l o z a1 (0 : Int32) q4 hq4) (wV tw_ml_X9_247 tw_im_X5_branch tw_se_X5_X5_branch tw_in_X5 tw_co_X5_branch) yd_X5_branch rfl fi_X5 (CB_rd 8 rfl) rfl rfl (by decide) rfl (Nat.le_of_ble_eq_true rfl) rfl rfl ?_
              refine G_goto (tgt := 100) C dX9_node_96 (by decide) ?_
              obtain rfl := Option.some.inj h
              exact G_iret C dX9_node_100 (fun _ h => h)
          replace h := z_in hc2 h
          refine G_tabOut (tgt := 101) C dX9_node_28 (z_out0_2 hc0 hc1 hc2) (by decide) ?_
          refine G_aload_n (pc' := 102) C dX9_node_101 0 rfl rfl ?_
          refine G_get (pc' := 105) (k := 5) C fi_X9 dX9_node_102 tw_fl_X9_40 rfl (by decide) (CB_rd 0 rfl) rfl rfl ?_
          refine G_iload_n (pc' := 106) C dX9_node_105 1 rfl rfl ?_
          replace h := ob h
          obtain ⟨q5, hq5, h⟩ := h
          refine G_cV0 (pc' := 109) C dX9_node_106 (tX5_isLook_8 κ l o z a1 q5 hq5) (wV tw_ml_X9_244 tw_im_X5_isLook tw_se_X5_X5_isLook tw_in_X5 tw_co_X5_isLook) yd_X5_isLook rfl fi_X5 (CB_rd 8 rfl) rfl rfl (by decide) rfl (Nat.le_of_ble_eq_true rfl) rfl rfl ?_
          refine G_if_eq (tgt := 124) (pc' := 112) C dX9_node_109 (by decide) rfl (fun hc => ?_) (fun hc => ?_)
          · replace h := z_ip hc h
            refine G_iconst (pc' := 125) (v := (-1 : Int32)) C dX9_node_124 (by decide) rfl ?_
            obtain rfl := Option.some.inj h
            exact G_iret C dX9_node_125 (fun _ h => h)
          · replace h := z_in hc h
            refine G_aload_n (pc' := 113) C dX9_node_112 0 rfl rfl ?_
            refine G_get (pc' := 116) (k := 5) C fi_X9 dX9_node_113 tw_fl_X9_40 rfl (by decide) (CB_rd 0 rfl) rfl rfl ?_
            refine G_iload_n (pc' := 117) C dX9_node_116 1 rfl rfl ?_
            refine G_iconst (pc' := 118) (v := (1 : Int32)) C dX9_node_117 (by decide) rfl ?_
            replace h := ob h
            obtain ⟨q6, hq6, h⟩ := h
            refine G_cV0 (pc' := 121) C dX9_node_118 (tX5_branch_8 κ l o z a1 (1 : Int32) q6 hq6) (wV tw_ml_X9_247 tw_im_X5_branch tw_se_X5_X5_branch tw_in_X5 tw_co_X5_branch) yd_X5_branch rfl fi_X5 (CB_rd 8 rfl) rfl rfl (by decide) rfl (Nat.le_of_ble_eq_true rfl) rfl rfl ?_
            refine G_goto (tgt := 125) C dX9_node_121 (by decide) ?_
            obtain rfl := Option.some.inj h
            exact G_iret C dX9_node_125 (fun _ h => h)
        · replace h := z_in hc h
          exact G_sub (lv' := []) [] rfl (J24  h)
theorem dX5_walk_0 : decode cX5_walk 0 = .ok (.iconst 0, 1) := by decide +kernel
theorem dX5_walk_1 : decode cX5_walk 1 = .ok (.istore_n 2, 1) := by decide +kernel
theorem dX5_walk_2 : decode cX5_walk 2 = .ok (.iconst 0, 1) := by decide +kernel
theorem dX5_walk_3 : decode cX5_walk 3 = .ok (.istore_n 3, 1) := by decide +kernel
theorem dX5_walk_4 : decode cX5_walk 4 = .ok (.iload_n 3, 1) := by decide +kernel
theorem dX5_walk_5 : decode cX5_walk 5 = .ok (.aload_n 0, 1) := by decide +kernel
theorem dX5_walk_6 : decode cX5_walk 6 = .ok (.getfield 21, 3) := by decide +kernel
theorem dX5_walk_9 : decode cX5_walk 9 = .ok (.if_icmp .ge 33, 3) := by decide +kernel
theorem dX5_walk_12 : decode cX5_walk 12 = .ok (.aload_n 0, 1) := by decide +kernel
theorem dX5_walk_13 : decode cX5_walk 13 = .ok (.iload_n 2, 1) := by decide +kernel
theorem dX5_walk_14 : decode cX5_walk 14 = .ok (.invokevirtual 52, 3) := by decide +kernel
theorem dX5_walk_17 : decode cX5_walk 17 = .ok (.ifCond .eq 25, 3) := by decide +kernel
theorem dX5_walk_20 : decode cX5_walk 20 = .ok (.aload_n 0, 1) := by decide +kernel
theorem dX5_walk_21 : decode cX5_walk 21 = .ok (.iload_n 2, 1) := by decide +kernel
theorem dX5_walk_22 : decode cX5_walk 22 = .ok (.iload_n 1, 1) := by decide +kernel
theorem dX5_walk_23 : decode cX5_walk 23 = .ok (.aload_n 0, 1) := by decide +kernel
theorem dX5_walk_24 : decode cX5_walk 24 = .ok (.getfield 9, 3) := by decide +kernel
theorem dX5_walk_27 : decode cX5_walk 27 = .ok (.iload_n 2, 1) := by decide +kernel
theorem dX5_walk_28 : decode cX5_walk 28 = .ok (.iaload, 1) := by decide +kernel
theorem dX5_walk_29 : decode cX5_walk 29 = .ok (.ishr, 1) := by decide +kernel
theorem dX5_walk_30 : decode cX5_walk 30 = .ok (.iconst 1, 1) := by decide +kernel
theorem dX5_walk_31 : decode cX5_walk 31 = .ok (.iand, 1) := by decide +kernel
theorem dX5_walk_32 : decode cX5_walk 32 = .ok (.invokevirtual 48, 3) := by decide +kernel
theorem dX5_walk_35 : decode cX5_walk 35 = .ok (.istore_n 2, 1) := by decide +kernel
theorem dX5_walk_36 : decode cX5_walk 36 = .ok (.iinc 3 1, 3) := by decide +kernel
theorem dX5_walk_39 : decode cX5_walk 39 = .ok (.goto (-35), 3) := by decide +kernel
theorem dX5_walk_42 : decode cX5_walk 42 = .ok (.aload_n 0, 1) := by decide +kernel
theorem dX5_walk_43 : decode cX5_walk 43 = .ok (.getfield 9, 3) := by decide +kernel
theorem dX5_walk_46 : decode cX5_walk 46 = .ok (.iload_n 2, 1) := by decide +kernel
theorem dX5_walk_47 : decode cX5_walk 47 = .ok (.iaload, 1) := by decide +kernel
theorem dX5_walk_48 : decode cX5_walk 48 = .ok (.bipush 20, 2) := by decide +kernel
theorem dX5_walk_50 : decode cX5_walk 50 = .ok (.isub, 1) := by decide +kernel
theorem dX5_walk_51 : decode cX5_walk 51 = .ok (.bipush 10, 2) := by decide +kernel
theorem dX5_walk_53 : decode cX5_walk 53 = .ok (.iload_n 3, 1) := by decide +kernel
theorem dX5_walk_54 : decode cX5_walk 54 = .ok (.imul, 1) := by decide +kernel
theorem dX5_walk_55 : decode cX5_walk 55 = .ok (.iadd, 1) := by decide +kernel
theorem dX5_walk_56 : decode cX5_walk 56 = .ok (.ireturn, 1) := by decide +kernel
theorem yd_X5_walk : yX5_walk.cls = RX5 ∧ yX5_walk.cls ≠ "java/lang/invoke/MethodHandle" ∧ yX5_walk.cls ≠ "java/lang/invoke/VarHandle" ∧ (parseMethodDescriptor yX5_walk.desc).map (fun d => d.parameters.length) = some 1 := by decide +kernel
abbrev rmX5_walk_8 : Room := { frames := 1, cells := 0, slots := 0, locals := 22 }
def fX5_walk_8_L4 (o : Nat) (z : CS) (l1 : Int32) (l2 : Int32) (l3 : Int32) : Option ((Int32 × Int32) ⊕ (Int32 × Int32)) :=
  if (z.1 6) ≤ l3 then
    some (.inr (l2, l3))
  else
    (fX5_isLook_8 o z l2).bind fun q1 =>
    if q1 = 0 then
      some (.inr (l2, l3))
    else
      (aI 511 (z.2.1 3) l2).bind fun v2 =>
      (fX5_branch_8 o z l2 ((l1 >>> (v2 &&& 31)) &&& (1 : Int32))).bind fun q3 =>
      some (.inl (q3, (l3 + (1 : Int32))))
def fX5_walk_8 (o : Nat) (z : CS) (a1 : Int32) : Option (Int32) :=
  (lpN (fun u => fX5_walk_8_L4 o z a1 u.1 u.2) bigN ((0 : Int32), (0 : Int32))).bind fun e4 =>
  (aI 511 (z.2.1 3) e4.1).bind fun v5 =>
  some ((v5 - (20 : Int32)) + ((10 : Int32) * e4.2))
set_option maxHeartbeats 4000000 in
set_option maxRecDepth 100000 in
theorem tX5_walk_8_L4 {κ : KK} {p : Program} {l : Launch} {e : Env} {s : State} {m : MethodId} {args : Array Value} {below : List Frame} {meth : Method} {c : Code} (C : Cx κ p s m args meth c cX5_walk 4 RX5 (some .int)) {o : Nat} {v : Option Value} {B' : Heap → Prop} {z : CS} {l1 : Int32} {l2 : Int32} {l3 : Int32} {y : (Int32 × Int32) ⊕ (Int32 × Int32)} (h : fX5_walk_8_L4 o z l1 l2 l3 = some y) (kc : ∀ u, y = .inl u → GC κ p l e s m args below meth c rmX5_walk_8 4 o v B' 0 0 z 4 [(0, .ref (o + 8)), (1, .int l1), (2, .int u.1), (3, .int u.2)] []) (kx : ∀ w, y = .inr w → GC κ p l e s m args below meth c rmX5_walk_8 4 o v B' 0 0 z 42 [(0, .ref (o + 8)), (2, .int w.1), (3, .int w.2)] []) : GC κ p l e s m args below meth c rmX5_walk_8 4 o v B' 0 0 z 4 [(0, .ref (o + 8)), (1, .int l1), (2, .int l2), (3, .int l3)] [] := by
  unfold fX5_walk_8_L4 at h
  refine G_iload_n (pc' := 5) C dX5_walk_4 3 rfl rfl ?_
  refine G_aload_n (pc' := 6) C dX5_walk_5 0 rfl rfl ?_
  refine G_get (pc' := 9) (k := 3) C fi_X5 dX5_walk_6 tw_fl_X5_21 rfl (by decide) (CB_rd 8 rfl) rfl rfl ?_
  refine G_icmp_ge (tgt := 42) (pc' := 12) C dX5_walk_9 (by decide) rfl (fun hc => ?_) (fun hc => ?_)
  · replace h := z_ip hc h
    exact G_sub (lv' := [(0, .ref (o + 8)), (2, .int l2), (3, .int l3)]) [0, 2, 3] rfl (kx _ (Option.some.inj h).symm)
  · replace h := z_in hc h
    refine G_aload_n (pc' := 13) C dX5_walk_12 0 rfl rfl ?_
    refine G_iload_n (pc' := 14) C dX5_walk_13 2 rfl rfl ?_
    replace h := ob h
    obtain ⟨q1, hq1, h⟩ := h
    refine G_cV0 (pc' := 17) C dX5_walk_14 (tX5_isLook_8 κ l o z l2 q1 hq1) (wV tw_ml_X5_52 tw_im_X5_isLook tw_se_X5_X5_isLook tw_in_X5 tw_co_X5_isLook) yd_X5_isLook rfl fi_X5 (CB_rd 8 rfl) rfl rfl (by decide) rfl (Nat.le_of_ble_eq_true rfl) rfl rfl ?_
    refine G_if_eq (tgt := 42) (pc' := 20) C dX5_walk_17 (by decide) rfl (fun hc => ?_) (fun hc => ?_)
    · replace h := z_ip hc h
      exact G_sub (lv' := [(0, .ref (o + 8)), (2, .int l2), (3, .int l3)]) [0, 2, 3] rfl (kx _ (Option.some.inj h).symm)
    · replace h := z_in hc h
      refine G_aload_n (pc' := 21) C dX5_walk_20 0 rfl rfl ?_
      refine G_iload_n (pc' := 22) C dX5_walk_21 2 rfl rfl ?_
      refine G_iload_n (pc' := 23) C dX5_walk_22 1 rfl rfl ?_
      refine G_aload_n (pc' := 24) C dX5_walk_23 0 rfl rfl ?_
      refine G_get (pc' := 27) (k := 0) C fi_X5 dX5_walk_24 tw_fl_X5_9 rfl (by decide) (CB_rd 8 rfl) rfl rfl ?_
      refine G_iload_n (pc' := 28) C dX5_walk_27 2 rfl rfl ?_
      replace h := ob h
      obtain ⟨v2, hv2, h⟩ := h
      refine G_ialdV (pc' := 29) C dX5_walk_28 (CB_rd 9 rfl) hv2 rfl ?_
      refine G_ishr (pc' := 30) C dX5_walk_29 rfl ?_
      refine G_iconst (pc' := 31) (v := (1 : Int32)) C dX5_walk_30 (by decide) rfl ?_
      refine G_iand (pc' := 32) C dX5_walk_31 rfl ?_
      replace h := ob h
      obtain ⟨q3, hq3, h⟩ := h
      refine G_cV0 (pc' := 35) C dX5_walk_32 (tX5_branch_8 κ l o z l2 ((l1 >>> (v2 &&& 31)) &&& (1 : Int32)) q3 hq3) (wV tw_ml_X5_48 tw_im_X5_branch tw_se_X5_X5_branch tw_in_X5 tw_co_X5_branch) yd_X5_branch rfl fi_X5 (CB_rd 8 rfl) rfl rfl (by decide) rfl (Nat.le_of_ble_eq_true rfl) rfl rfl ?_
      refine G_istore_n (pc' := 36) C dX5_walk_35 [(2, .int q3), (0, .ref (o + 8)), (1, .int l1), (3, .int l3)] (by decide) rfl rfl ?_
      refine G_iinc (pc' := 39) C dX5_walk_36 3 rfl rfl [(3, .int (l3 + (1 : Int32))), (2, .int q3), (0, .ref (o + 8)), (1, .int l1)] (by decide) rfl rfl ?_
      refine G_goto (tgt := 4) C dX5_walk_39 (by decide) ?_
      exact G_sub (lv' := [(0, .ref (o + 8)), (1, .int l1), (2, .int q3), (3, .int (l3 + (1 : Int32)))]) [2, 3, 1, 0] rfl (kc (q3, (l3 + (1 : Int32))) (Option.some.inj h).symm)
set_option maxHeartbeats 4000000 in
set_option maxRecDepth 100000 in
theorem tX5_walk_8 (κ : KK) (l : Launch) (o : Nat) (z : CS) (a1 : Int32) (q : Int32) (h : fX5_walk_8 o z a1 = some q) : MM κ l yX5_walk cX5_walk 4 (some .int) rmX5_walk_8 (CA o) [.ref (o + 8), .int a1] (CB κ o z) (some (Value.int q)) (CB κ o z) := by
  refine MM.of (by decide +kernel) (Nat.le_of_ble_eq_true rfl) ?_
  intro p e s m below meth c C hnm
  unfold fX5_walk_8 at h
  refine G_sub (lv' := [(0, .ref (o + 8)), (1, .int a1)]) [0, 1] rfl ?_
  refine G_iconst (pc' := 1) (v := (0 : Int32)) C dX5_walk_0 (by decide) rfl ?_
  refine G_istore_n (pc' := 2) C dX5_walk_1 [(2, .int (0 : Int32)), (0, .ref (o + 8)), (1, .int a1)] (by decide) rfl rfl ?_
  refine G_iconst (pc' := 3) (v := (0 : Int32)) C dX5_walk_2 (by decide) rfl ?_
  refine G_istore_n (pc' := 4) C dX5_walk_3 [(3, .int (0 : Int32)), (2, .int (0 : Int32)), (0, .ref (o + 8)), (1, .int a1)] (by decide) rfl rfl ?_
  replace h := ob h
  obtain ⟨e4, hle4, h⟩ := h
  refine G_sub (lv' := [(0, .ref (o + 8)), (1, .int a1), (2, .int (0 : Int32)), (3, .int (0 : Int32))]) [2, 3, 1, 0] rfl ?_
  refine lpN_ind (body := fun u => fX5_walk_8_L4 o z a1 u.1 u.2) (P := fun u => GC κ p l e s m ([.ref (o + 8), .int a1] : List Value).toArray below meth c rmX5_walk_8 4 o (some (Value.int q)) (CB κ o z) 0 0 z 4 [(0, .ref (o + 8)), (1, .int a1), (2, .int u.1), (3, .int u.2)] []) (X := fun w => GC κ p l e s m ([.ref (o + 8), .int a1] : List Value).toArray below meth c rmX5_walk_8 4 o (some (Value.int q)) (CB κ o z) 0 0 z 42 [(0, .ref (o + 8)), (2, .int w.1), (3, .int w.2)] []) (fun u y hb kc kx => tX5_walk_8_L4 C hb kc kx) _ _ _ hle4 ?_
  refine G_aload_n (pc' := 43) C dX5_walk_42 0 rfl rfl ?_
  refine G_get (pc' := 46) (k := 0) C fi_X5 dX5_walk_43 tw_fl_X5_9 rfl (by decide) (CB_rd 8 rfl) rfl rfl ?_
  refine G_iload_n (pc' := 47) C dX5_walk_46 1 rfl rfl ?_
  replace h := ob h
  obtain ⟨v5, hv5, h⟩ := h
  refine G_ialdV (pc' := 48) C dX5_walk_47 (CB_rd 9 rfl) hv5 rfl ?_
  refine G_bipush (pc' := 50) (v := (20 : Int32)) C dX5_walk_48 (by decide) rfl ?_
  refine G_isub (pc' := 51) C dX5_walk_50 rfl ?_
  refine G_bipush (pc' := 53) (v := (10 : Int32)) C dX5_walk_51 (by decide) rfl ?_
  refine G_iload_n (pc' := 54) C dX5_walk_53 2 rfl rfl ?_
  refine G_imul (pc' := 55) C dX5_walk_54 rfl ?_
  refine G_iadd (pc' := 56) C dX5_walk_55 rfl ?_
  obtain rfl := Option.some.inj h
  exact G_iret C dX5_walk_56 (fun _ h => h)
theorem dX9_run_0 : decode cX9_run 0 = .ok (.aload_n 0, 1) := by decide +kernel
theorem dX9_run_1 : decode cX9_run 1 = .ok (.getfield 40, 3) := by decide +kernel
theorem dX9_run_4 : decode cX9_run 4 = .ok (.getfield 235, 3) := by decide +kernel
theorem dX9_run_7 : decode cX9_run 7 = .ok (.ifCond .eq 14, 3) := by decide +kernel
theorem dX9_run_10 : decode cX9_run 10 = .ok (.iload_n 1, 1) := by decide +kernel
theorem dX9_run_11 : decode cX9_run 11 = .ok (.ifCond .lt 10, 3) := by decide +kernel
theorem dX9_run_14 : decode cX9_run 14 = .ok (.iload_n 1, 1) := by decide +kernel
theorem dX9_run_15 : decode cX9_run 15 = .ok (.sipush 256, 3) := by decide +kernel
theorem dX9_run_18 : decode cX9_run 18 = .ok (.if_icmp .lt 6, 3) := by decide +kernel
theorem dX9_run_21 : decode cX9_run 21 = .ok (.bipush (-2), 2) := by decide +kernel
theorem dX9_run_23 : decode cX9_run 23 = .ok (.ireturn, 1) := by decide +kernel
theorem dX9_run_24 : decode cX9_run 24 = .ok (.aload_n 0, 1) := by decide +kernel
theorem dX9_run_25 : decode cX9_run 25 = .ok (.getfield 40, 3) := by decide +kernel
theorem dX9_run_28 : decode cX9_run 28 = .ok (.iload_n 1, 1) := by decide +kernel
theorem dX9_run_29 : decode cX9_run 29 = .ok (.invokevirtual 251, 3) := by decide +kernel
theorem dX9_run_32 : decode cX9_run 32 = .ok (.ireturn, 1) := by decide +kernel
theorem yd_X9_run : yX9_run.cls = RX9 ∧ yX9_run.cls ≠ "java/lang/invoke/MethodHandle" ∧ yX9_run.cls ≠ "java/lang/invoke/VarHandle" ∧ (parseMethodDescriptor yX9_run.desc).map (fun d => d.parameters.length) = some 1 := by decide +kernel
abbrev rmX9_run : Room := { frames := 2, cells := 0, slots := 0, locals := 45 }
def fX9_run_J21 (o : Nat) (z : CS) : Option (Int32) :=
  some (-2 : Int32)
def fX9_run (o : Nat) (z : CS) (a1 : Int32) : Option (Int32) :=
  if (z.1 6) = 0 then
    fX9_run_J21 o z
  else
    if a1 < 0 then
      fX9_run_J21 o z
    else
      if a1 < (256 : Int32) then
        (fX5_walk_8 o z a1).bind fun q1 =>
        some q1
      else
        fX9_run_J21 o z
set_option maxHeartbeats 4000000 in
set_option maxRecDepth 100000 in
theorem tX9_run (κ : KK) (l : Launch) (o : Nat) (z : CS) (a1 : Int32) (q : Int32) (h : fX9_run o z a1 = some q) : MM κ l yX9_run cX9_run 2 (some .int) rmX9_run (CA o) [.ref o, .int a1] (CB κ o z) (some (Value.int q)) (CB κ o z) := by
  refine MM.of (by decide +kernel) (Nat.le_of_ble_eq_true rfl) ?_
  intro p e s m below meth c C hnm
  have J21 : fX9_run_J21 o z = some q → GC κ p l e s m ([.ref o, .int a1] : List Value).toArray below meth c rmX9_run 2 o (some (Value.int q)) (CB κ o z) 0 0 z 21 [] [] := by
    intro  h
    unfold fX9_run_J21 at h
    refine G_bipush (pc' := 23) (v := (-2 : Int32)) C dX9_run_21 (by decide) rfl ?_
    obtain rfl := Option.some.inj h
    exact G_iret C dX9_run_23 (fun _ h => h)
  unfold fX9_run at h
  refine G_sub (lv' := [(0, .ref o), (1, .int a1)]) [0, 1] rfl ?_
  refine G_aload_n (pc' := 1) C dX9_run_0 0 rfl rfl ?_
  refine G_get (pc' := 4) (k := 5) C fi_X9 dX9_run_1 tw_fl_X9_40 rfl (by decide) (CB_rd 0 rfl) rfl rfl ?_
  refine G_get (pc' := 7) (k := 3) C fi_X5 dX9_run_4 tw_fl_X9_235 rfl (by decide) (CB_rd 8 rfl) rfl rfl ?_
  refine G_if_eq (tgt := 21) (pc' := 10) C dX9_run_7 (by decide) rfl (fun hc => ?_) (fun hc => ?_)
  · replace h := z_ip hc h
    exact G_sub (lv' := []) [] rfl (J21  h)
  · replace h := z_in hc h
    refine G_iload_n (pc' := 11) C dX9_run_10 1 rfl rfl ?_
    refine G_if_lt (tgt := 21) (pc' := 14) C dX9_run_11 (by decide) rfl (fun hc => ?_) (fun hc => ?_)
    · replace h := z_ip hc h
      exact G_sub (lv' := []) [] rfl (J21  h)
    · replace h := z_in hc h
      refine G_iload_n (pc' := 15) C dX9_run_14 1 rfl rfl ?_
      refine G_sipush (pc' := 18) (v := (256 : Int32)) C dX9_run_15 (by decide) rfl ?_
      refine G_icmp_lt (tgt := 24) (pc' := 21) C dX9_run_18 (by decide) rfl (fun hc => ?_) (fun hc => ?_)
      · replace h := z_ip hc h
        refine G_aload_n (pc' := 25) C dX9_run_24 0 rfl rfl ?_
        refine G_get (pc' := 28) (k := 5) C fi_X9 dX9_run_25 tw_fl_X9_40 rfl (by decide) (CB_rd 0 rfl) rfl rfl ?_
        refine G_iload_n (pc' := 29) C dX9_run_28 1 rfl rfl ?_
        replace h := ob h
        obtain ⟨q1, hq1, h⟩ := h
        refine G_cV0 (pc' := 32) C dX9_run_29 (tX5_walk_8 κ l o z a1 q1 hq1) (wV tw_ml_X9_251 tw_im_X5_walk tw_se_X5_X5_walk tw_in_X5 tw_co_X5_walk) yd_X5_walk rfl fi_X5 (CB_rd 8 rfl) rfl rfl (by decide) rfl (Nat.le_of_ble_eq_true rfl) rfl rfl ?_
        obtain rfl := Option.some.inj h
        exact G_iret C dX9_run_32 (fun _ h => h)
      · replace h := z_in hc h
        exact G_sub (lv' := []) [] rfl (J21  h)
abbrev rmX5_branch_12 : Room := { frames := 0, cells := 0, slots := 0, locals := 0 }
def fX5_branch_12 (o : Nat) (z : CS) (a1 : Int32) (a2 : Int32) : Option (Int32) :=
  if a2 = 0 then
    some (a1 + (1 : Int32))
  else
    (aI 100 (z.2.1 8) (a1 + (1 : Int32))).bind fun v1 =>
    some v1
set_option maxHeartbeats 4000000 in
set_option maxRecDepth 100000 in
theorem tX5_branch_12 (κ : KK) (l : Launch) (o : Nat) (z : CS) (a1 : Int32) (a2 : Int32) (q : Int32) (h : fX5_branch_12 o z a1 a2 = some q) : MM κ l yX5_branch cX5_branch 3 (some .int) rmX5_branch_12 (CA o) [.ref (o + 12), .int a1, .int a2] (CB κ o z) (some (Value.int q)) (CB κ o z) := by
  refine MM.of (by decide +kernel) (Nat.le_of_ble_eq_true rfl) ?_
  intro p e s m below meth c C hnm
  unfold fX5_branch_12 at h
  refine G_sub (lv' := [(0, .ref (o + 12)), (1, .int a1), (2, .int a2)]) [0, 1, 2] rfl ?_
  refine G_iload_n (pc' := 1) C dX5_branch_0 2 rfl rfl ?_
  refine G_if_ne (tgt := 10) (pc' := 4) C dX5_branch_1 (by decide) rfl (fun hc => ?_) (fun hc => ?_)
  · replace h := z_in hc h
    refine G_aload_n (pc' := 11) C dX5_branch_10 0 rfl rfl ?_
    refine G_get (pc' := 14) (k := 2) C fi_X5 dX5_branch_11 tw_fl_X5_18 rfl (by decide) (CB_rd 12 rfl) rfl rfl ?_
    refine G_iload_n (pc' := 15) C dX5_branch_14 1 rfl rfl ?_
    refine G_iconst (pc' := 16) (v := (1 : Int32)) C dX5_branch_15 (by decide) rfl ?_
    refine G_iadd (pc' := 17) C dX5_branch_16 rfl ?_
    replace h := ob h
    obtain ⟨v1, hv1, h⟩ := h
    refine G_ialdV (pc' := 18) C dX5_branch_17 (CB_rd 15 rfl) hv1 rfl ?_
    obtain rfl := Option.some.inj h
    exact G_iret C dX5_branch_18 (fun _ h => h)
  · replace h := z_ip hc h
    refine G_iload_n (pc' := 5) C dX5_branch_4 1 rfl rfl ?_
    refine G_iconst (pc' := 6) (v := (1 : Int32)) C dX5_branch_5 (by decide) rfl ?_
    refine G_iadd (pc' := 7) C dX5_branch_6 rfl ?_
    refine G_goto (tgt := 18) C dX5_branch_7 (by decide) ?_
    obtain rfl := Option.some.inj h
    exact G_iret C dX5_branch_18 (fun _ h => h)
