theorem dX8_least_0 : decode cX8_least 0 = .ok (.iconst 0, 1) := by decide +kernel
theorem dX8_least_1 : decode cX8_least 1 = .ok (.istore_n 2, 1) := by decide +kernel
theorem dX8_least_2 : decode cX8_least 2 = .ok (.iload_n 2, 1) := by decide +kernel
theorem dX8_least_3 : decode cX8_least 3 = .ok (.aload_n 0, 1) := by decide +kernel
theorem dX8_least_4 : decode cX8_least 4 = .ok (.getfield 21, 3) := by decide +kernel
theorem dX8_least_7 : decode cX8_least 7 = .ok (.arraylength, 1) := by decide +kernel
theorem dX8_least_8 : decode cX8_least 8 = .ok (.if_icmp .ge 21, 3) := by decide +kernel
theorem dX8_least_11 : decode cX8_least 11 = .ok (.aload_n 0, 1) := by decide +kernel
theorem dX8_least_12 : decode cX8_least 12 = .ok (.getfield 21, 3) := by decide +kernel
theorem dX8_least_15 : decode cX8_least 15 = .ok (.iload_n 2, 1) := by decide +kernel
theorem dX8_least_16 : decode cX8_least 16 = .ok (.baload, 1) := by decide +kernel
theorem dX8_least_17 : decode cX8_least 17 = .ok (.iload_n 1, 1) := by decide +kernel
theorem dX8_least_18 : decode cX8_least 18 = .ok (.if_icmp .ne 5, 3) := by decide +kernel
theorem dX8_least_21 : decode cX8_least 21 = .ok (.iload_n 2, 1) := by decide +kernel
theorem dX8_least_22 : decode cX8_least 22 = .ok (.ireturn, 1) := by decide +kernel
theorem dX8_least_23 : decode cX8_least 23 = .ok (.iinc 2 1, 3) := by decide +kernel
theorem dX8_least_26 : decode cX8_least 26 = .ok (.goto (-24), 3) := by decide +kernel
theorem dX8_least_29 : decode cX8_least 29 = .ok (.iconst (-1), 1) := by decide +kernel
theorem dX8_least_30 : decode cX8_least 30 = .ok (.ireturn, 1) := by decide +kernel
theorem yd_X8_least : yX8_least.cls = RX8 ∧ yX8_least.cls ≠ "java/lang/invoke/MethodHandle" ∧ yX8_least.cls ≠ "java/lang/invoke/VarHandle" ∧ (parseMethodDescriptor yX8_least.desc).map (fun d => d.parameters.length) = some 1 := by decide +kernel
abbrev rmX8_least : Room := { frames := 0, cells := 0, slots := 0, locals := 0 }
def fX8_least_L2 (o : Nat) (z : CS) (l0 : Nat) (l1 : Int32) (l2 : Int32) : Option (Int32 ⊕ (Unit ⊕ Int32)) :=
  (dT z l0).bind fun t1 =>
  (t1.2.2.2).bind fun ad2 =>
  (lnB z ad2).bind fun v3 =>
  if v3 ≤ l2 then
    some (.inr (.inl ()))
  else
    (dT z l0).bind fun t4 =>
    (t4.2.2.2).bind fun ad5 =>
    (rdB z ad5 l2).bind fun v6 =>
    if v6 = l1 then
      some (.inr (.inr l2))
    else
      some (.inl (l2 + (1 : Int32)))
def fX8_least (o : Nat) (z : CS) (a0 : Nat) (a1 : Int32) : Option (Int32) :=
  (lpN (fun u => fX8_least_L2 o z a0 a1 u) bigN (0 : Int32)).bind fun e7 =>
  sel e7 (fun x8 =>
    some (-1 : Int32)
    ) (fun rt => some rt)
set_option maxHeartbeats 4000000 in
set_option maxRecDepth 100000 in
theorem tX8_least_L2 {κ : KK} {p : Program} {l : Launch} {e : Env} {s : State} {m : MethodId} {args : Array Value} {below : List Frame} {meth : Method} {c : Code} (C : Cx κ p s m args meth c cX8_least 3 RX8 (some .int)) {o : Nat} {v : Option Value} {B' : Heap → Prop} {z : CS} {l0 : Nat} {l1 : Int32} {l2 : Int32} {y : Int32 ⊕ (Unit ⊕ Int32)} (h : fX8_least_L2 o z l0 l1 l2 = some y) (kc : ∀ u, y = .inl u → GC κ p l e s m args below meth c rmX8_least 3 o v B' 0 0 z 2 [(0, .ref l0), (1, .int l1), (2, .int u)] []) (kx : ∀ w, y = .inr w → (∀ x, w = .inl x → GC κ p l e s m args below meth c rmX8_least 3 o v B' 0 0 z 29 [] []) ∧ (∀ rt, w = .inr rt → v = (some (Value.int rt)) ∧ B' = (CB κ o z))) : GC κ p l e s m args below meth c rmX8_least 3 o v B' 0 0 z 2 [(0, .ref l0), (1, .int l1), (2, .int l2)] [] := by
  unfold fX8_least_L2 at h
  refine G_iload_n (pc' := 3) C dX8_least_2 2 rfl rfl ?_
  refine G_aload_n (pc' := 4) C dX8_least_3 0 rfl rfl ?_
  replace h := ob h
  obtain ⟨t1, ht1, h⟩ := h
  refine G_get (pc' := 7) (k := 3) C fi_X8 dX8_least_4 tw_fl_X8_21 rfl (by decide) (CB_T ht1) rfl rfl ?_
  replace h := ob h
  obtain ⟨ad2, had2, h⟩ := h
  rw [had2]
  replace h := ob h
  obtain ⟨v3, hv3, h⟩ := h
  refine P_lenB (pc' := 8) C dX8_least_7 hv3 rfl ?_
  refine G_icmp_ge (tgt := 29) (pc' := 11) C dX8_least_8 (by decide) rfl (fun hc => ?_) (fun hc => ?_)
  · replace h := z_ip hc h
    exact G_sub (lv' := []) [] rfl ((kx _ (Option.some.inj h).symm).1 _ rfl)
  · replace h := z_in hc h
    refine G_aload_n (pc' := 12) C dX8_least_11 0 rfl rfl ?_
    replace h := ob h
    obtain ⟨t4, ht4, h⟩ := h
    refine G_get (pc' := 15) (k := 3) C fi_X8 dX8_least_12 tw_fl_X8_21 rfl (by decide) (CB_T ht4) rfl rfl ?_
    refine G_iload_n (pc' := 16) C dX8_least_15 2 rfl rfl ?_
    replace h := ob h
    obtain ⟨ad5, had5, h⟩ := h
    rw [had5]
    replace h := ob h
    obtain ⟨v6, hv6, h⟩ := h
    refine P_bald (pc' := 17) C dX8_least_16 hv6 rfl ?_
    refine G_iload_n (pc' := 18) C dX8_least_17 1 rfl rfl ?_
    refine G_icmp_ne (tgt := 23) (pc' := 21) C dX8_least_18 (by decide) rfl (fun hc => ?_) (fun hc => ?_)
    · replace h := z_in hc h
      refine G_iinc (pc' := 26) C dX8_least_23 2 rfl rfl [(2, .int (l2 + (1 : Int32))), (0, .ref l0), (1, .int l1)] (by decide) rfl rfl ?_
      refine G_goto (tgt := 2) C dX8_least_26 (by decide) ?_
      exact G_sub (lv' := [(0, .ref l0), (1, .int l1), (2, .int (l2 + (1 : Int32)))]) [1, 2, 0] rfl (kc (l2 + (1 : Int32)) (Option.some.inj h).symm)
    · replace h := z_ip hc h
      refine G_iload_n (pc' := 22) C dX8_least_21 2 rfl rfl ?_
      obtain ⟨hv, hB⟩ := (kx _ (Option.some.inj h).symm).2 _ rfl
      subst hv
      subst hB
      exact G_iret C dX8_least_22 (fun _ h => h)
set_option maxHeartbeats 4000000 in
set_option maxRecDepth 100000 in
theorem tX8_least (κ : KK) (l : Launch) (o : Nat) (z : CS) (a0 : Nat) (a1 : Int32) (q : Int32) (h : fX8_least o z a0 a1 = some q) : MM κ l yX8_least cX8_least 3 (some .int) rmX8_least (CA o) [.ref a0, .int a1] (CB κ o z) (some (Value.int q)) (CB κ o z) := by
  refine MM.of (by decide +kernel) (Nat.le_of_ble_eq_true rfl) ?_
  intro p e s m below meth c C hnm
  unfold fX8_least at h
  refine G_sub (lv' := [(0, .ref a0), (1, .int a1)]) [0, 1] rfl ?_
  refine G_iconst (pc' := 1) (v := (0 : Int32)) C dX8_least_0 (by decide) rfl ?_
  refine G_istore_n (pc' := 2) C dX8_least_1 [(2, .int (0 : Int32)), (0, .ref a0), (1, .int a1)] (by decide) rfl rfl ?_
  replace h := ob h
  obtain ⟨e7, hle7, h⟩ := h
  refine G_sub (lv' := [(0, .ref a0), (1, .int a1), (2, .int (0 : Int32))]) [1, 2, 0] rfl ?_
  refine lpN_ind (body := fun u => fX8_least_L2 o z a0 a1 u) (P := fun u => GC κ p l e s m ([.ref a0, .int a1] : List Value).toArray below meth c rmX8_least 3 o (some (Value.int q)) (CB κ o z) 0 0 z 2 [(0, .ref a0), (1, .int a1), (2, .int u)] []) (X := fun w => (∀ x, w = .inl x → GC κ p l e s m ([.ref a0, .int a1] : List Value).toArray below meth c rmX8_least 3 o (some (Value.int q)) (CB κ o z) 0 0 z 29 [] []) ∧ (∀ rt, w = .inr rt → (some (Value.int q)) = (some (Value.int rt)) ∧ (CB κ o z) = (CB κ o z))) (fun u y hb kc kx => tX8_least_L2 C hb kc kx) _ _ _ hle7 ?_
  refine ⟨fun x8 hxx8 => ?_, fun rt hrt => ?_⟩
  · subst hxx8
    replace h := z_sl h
    refine G_iconst (pc' := 30) (v := (-1 : Int32)) C dX8_least_29 (by decide) rfl ?_
    obtain rfl := Option.some.inj h
    exact G_iret C dX8_least_30 (fun _ h => h)
  · subst hrt
    replace h := z_sr h
    obtain rfl := Option.some.inj h
    exact ⟨rfl, rfl⟩
theorem dJ6_bitCount_0f7a4_0 : decode cJ6_bitCount_0f7a4 0 = .ok (.iload_n 0, 1) := by decide +kernel
theorem dJ6_bitCount_0f7a4_1 : decode cJ6_bitCount_0f7a4 1 = .ok (.iload_n 0, 1) := by decide +kernel
theorem dJ6_bitCount_0f7a4_2 : decode cJ6_bitCount_0f7a4 2 = .ok (.iconst 1, 1) := by decide +kernel
theorem dJ6_bitCount_0f7a4_3 : decode cJ6_bitCount_0f7a4 3 = .ok (.iushr, 1) := by decide +kernel
theorem dJ6_bitCount_0f7a4_4 : decode cJ6_bitCount_0f7a4 4 = .ok (.ldc_w 265, 3) := by decide +kernel
theorem dJ6_bitCount_0f7a4_7 : decode cJ6_bitCount_0f7a4 7 = .ok (.iand, 1) := by decide +kernel
theorem dJ6_bitCount_0f7a4_8 : decode cJ6_bitCount_0f7a4 8 = .ok (.isub, 1) := by decide +kernel
theorem dJ6_bitCount_0f7a4_9 : decode cJ6_bitCount_0f7a4 9 = .ok (.istore_n 0, 1) := by decide +kernel
theorem dJ6_bitCount_0f7a4_10 : decode cJ6_bitCount_0f7a4 10 = .ok (.iload_n 0, 1) := by decide +kernel
theorem dJ6_bitCount_0f7a4_11 : decode cJ6_bitCount_0f7a4 11 = .ok (.ldc_w 266, 3) := by decide +kernel
theorem dJ6_bitCount_0f7a4_14 : decode cJ6_bitCount_0f7a4 14 = .ok (.iand, 1) := by decide +kernel
theorem dJ6_bitCount_0f7a4_15 : decode cJ6_bitCount_0f7a4 15 = .ok (.iload_n 0, 1) := by decide +kernel
theorem dJ6_bitCount_0f7a4_16 : decode cJ6_bitCount_0f7a4 16 = .ok (.iconst 2, 1) := by decide +kernel
theorem dJ6_bitCount_0f7a4_17 : decode cJ6_bitCount_0f7a4 17 = .ok (.iushr, 1) := by decide +kernel
theorem dJ6_bitCount_0f7a4_18 : decode cJ6_bitCount_0f7a4 18 = .ok (.ldc_w 266, 3) := by decide +kernel
theorem dJ6_bitCount_0f7a4_21 : decode cJ6_bitCount_0f7a4 21 = .ok (.iand, 1) := by decide +kernel
theorem dJ6_bitCount_0f7a4_22 : decode cJ6_bitCount_0f7a4 22 = .ok (.iadd, 1) := by decide +kernel
theorem dJ6_bitCount_0f7a4_23 : decode cJ6_bitCount_0f7a4 23 = .ok (.istore_n 0, 1) := by decide +kernel
theorem dJ6_bitCount_0f7a4_24 : decode cJ6_bitCount_0f7a4 24 = .ok (.iload_n 0, 1) := by decide +kernel
theorem dJ6_bitCount_0f7a4_25 : decode cJ6_bitCount_0f7a4 25 = .ok (.iload_n 0, 1) := by decide +kernel
theorem dJ6_bitCount_0f7a4_26 : decode cJ6_bitCount_0f7a4 26 = .ok (.iconst 4, 1) := by decide +kernel
theorem dJ6_bitCount_0f7a4_27 : decode cJ6_bitCount_0f7a4 27 = .ok (.iushr, 1) := by decide +kernel
theorem dJ6_bitCount_0f7a4_28 : decode cJ6_bitCount_0f7a4 28 = .ok (.iadd, 1) := by decide +kernel
theorem dJ6_bitCount_0f7a4_29 : decode cJ6_bitCount_0f7a4 29 = .ok (.ldc_w 267, 3) := by decide +kernel
theorem dJ6_bitCount_0f7a4_32 : decode cJ6_bitCount_0f7a4 32 = .ok (.iand, 1) := by decide +kernel
theorem dJ6_bitCount_0f7a4_33 : decode cJ6_bitCount_0f7a4 33 = .ok (.istore_n 0, 1) := by decide +kernel
theorem dJ6_bitCount_0f7a4_34 : decode cJ6_bitCount_0f7a4 34 = .ok (.iload_n 0, 1) := by decide +kernel
theorem dJ6_bitCount_0f7a4_35 : decode cJ6_bitCount_0f7a4 35 = .ok (.iload_n 0, 1) := by decide +kernel
theorem dJ6_bitCount_0f7a4_36 : decode cJ6_bitCount_0f7a4 36 = .ok (.bipush 8, 2) := by decide +kernel
theorem dJ6_bitCount_0f7a4_38 : decode cJ6_bitCount_0f7a4 38 = .ok (.iushr, 1) := by decide +kernel
theorem dJ6_bitCount_0f7a4_39 : decode cJ6_bitCount_0f7a4 39 = .ok (.iadd, 1) := by decide +kernel
theorem dJ6_bitCount_0f7a4_40 : decode cJ6_bitCount_0f7a4 40 = .ok (.istore_n 0, 1) := by decide +kernel
theorem dJ6_bitCount_0f7a4_41 : decode cJ6_bitCount_0f7a4 41 = .ok (.iload_n 0, 1) := by decide +kernel
theorem dJ6_bitCount_0f7a4_42 : decode cJ6_bitCount_0f7a4 42 = .ok (.iload_n 0, 1) := by decide +kernel
theorem dJ6_bitCount_0f7a4_43 : decode cJ6_bitCount_0f7a4 43 = .ok (.bipush 16, 2) := by decide +kernel
theorem dJ6_bitCount_0f7a4_45 : decode cJ6_bitCount_0f7a4 45 = .ok (.iushr, 1) := by decide +kernel
theorem dJ6_bitCount_0f7a4_46 : decode cJ6_bitCount_0f7a4 46 = .ok (.iadd, 1) := by decide +kernel
theorem dJ6_bitCount_0f7a4_47 : decode cJ6_bitCount_0f7a4 47 = .ok (.istore_n 0, 1) := by decide +kernel
theorem dJ6_bitCount_0f7a4_48 : decode cJ6_bitCount_0f7a4 48 = .ok (.iload_n 0, 1) := by decide +kernel
theorem dJ6_bitCount_0f7a4_49 : decode cJ6_bitCount_0f7a4 49 = .ok (.bipush 63, 2) := by decide +kernel
theorem dJ6_bitCount_0f7a4_51 : decode cJ6_bitCount_0f7a4 51 = .ok (.iand, 1) := by decide +kernel
theorem dJ6_bitCount_0f7a4_52 : decode cJ6_bitCount_0f7a4 52 = .ok (.ireturn, 1) := by decide +kernel
theorem yd_J6_bitCount_0f7a4 : yJ6_bitCount_0f7a4.cls ≠ "java/lang/invoke/MethodHandle" ∧ yJ6_bitCount_0f7a4.cls ≠ "java/lang/invoke/VarHandle" ∧ (parseMethodDescriptor yJ6_bitCount_0f7a4.desc).map (fun d => d.parameters.length) = some 1 := by decide +kernel
abbrev rmJ6_bitCount_0f7a4 : Room := { frames := 0, cells := 0, slots := 0, locals := 0 }
def fJ6_bitCount_0f7a4 (a1 : Int32) : Option (Int32) :=
  some ((((((((a1 - (((Int32.toUInt32 a1 >>> (Int32.toUInt32 (1 : Int32) &&& Int32.toUInt32 31)).toInt32) &&& (1431655765 : Int32))) &&& (858993459 : Int32)) + (((Int32.toUInt32 (a1 - (((Int32.toUInt32 a1 >>> (Int32.toUInt32 (1 : Int32) &&& Int32.toUInt32 31)).toInt32) &&& (1431655765 : Int32))) >>> (Int32.toUInt32 (2 : Int32) &&& Int32.toUInt32 31)).toInt32) &&& (858993459 : Int32))) + ((Int32.toUInt32 (((a1 - (((Int32.toUInt32 a1 >>> (Int32.toUInt32 (1 : Int32) &&& Int32.toUInt32 31)).toInt32) &&& (1431655765 : Int32))) &&& (858993459 : Int32)) + (((Int32.toUInt32 (a1 - (((Int32.toUInt32 a1 >>> (Int32.toUInt32 (1 : Int32) &&& Int32.toUInt32 31)).toInt32) &&& (1431655765 : Int32))) >>> (Int32.toUInt32 (2 : Int32) &&& Int32.toUInt32 31)).toInt32) &&& (858993459 : Int32))) >>> (Int32.toUInt32 (4 : Int32) &&& Int32.toUInt32 31)).toInt32)) &&& (252645135 : Int32)) + ((Int32.toUInt32 (((((a1 - (((Int32.toUInt32 a1 >>> (Int32.toUInt32 (1 : Int32) &&& Int32.toUInt32 31)).toInt32) &&& (1431655765 : Int32))) &&& (858993459 : Int32)) + (((Int32.toUInt32 (a1 - (((Int32.toUInt32 a1 >>> (Int32.toUInt32 (1 : Int32) &&& Int32.toUInt32 31)).toInt32) &&& (1431655765 : Int32))) >>> (Int32.toUInt32 (2 : Int32) &&& Int32.toUInt32 31)).toInt32) &&& (858993459 : Int32))) + ((Int32.toUInt32 (((a1 - (((Int32.toUInt32 a1 >>> (Int32.toUInt32 (1 : Int32) &&& Int32.toUInt32 31)).toInt32) &&& (1431655765 : Int32))) &&& (858993459 : Int32)) + (((Int32.toUInt32 (a1 - (((Int32.toUInt32 a1 >>> (Int32.toUInt32 (1 : Int32) &&& Int32.toUInt32 31)).toInt32) &&& (1431655765 : Int32))) >>> (Int32.toUInt32 (2 : Int32) &&& Int32.toUInt32 31)).toInt32) &&& (858993459 : Int32))) >>> (Int32.toUInt32 (4 : Int32) &&& Int32.toUInt32 31)).toInt32)) &&& (252645135 : Int32)) >>> (Int32.toUInt32 (8 : Int32) &&& Int32.toUInt32 31)).toInt32)) + ((Int32.toUInt32 ((((((a1 - (((Int32.toUInt32 a1 >>> (Int32.toUInt32 (1 : Int32) &&& Int32.toUInt32 31)).toInt32) &&& (1431655765 : Int32))) &&& (858993459 : Int32)) + (((Int32.toUInt32 (a1 - (((Int32.toUInt32 a1 >>> (Int32.toUInt32 (1 : Int32) &&& Int32.toUInt32 31)).toInt32) &&& (1431655765 : Int32))) >>> (Int32.toUInt32 (2 : Int32) &&& Int32.toUInt32 31)).toInt32) &&& (858993459 : Int32))) + ((Int32.toUInt32 (((a1 - (((Int32.toUInt32 a1 >>> (Int32.toUInt32 (1 : Int32) &&& Int32.toUInt32 31)).toInt32) &&& (1431655765 : Int32))) &&& (858993459 : Int32)) + (((Int32.toUInt32 (a1 - (((Int32.toUInt32 a1 >>> (Int32.toUInt32 (1 : Int32) &&& Int32.toUInt32 31)).toInt32) &&& (1431655765 : Int32))) >>> (Int32.toUInt32 (2 : Int32) &&& Int32.toUInt32 31)).toInt32) &&& (858993459 : Int32))) >>> (Int32.toUInt32 (4 : Int32) &&& Int32.toUInt32 31)).toInt32)) &&& (252645135 : Int32)) + ((Int32.toUInt32 (((((a1 - (((Int32.toUInt32 a1 >>> (Int32.toUInt32 (1 : Int32) &&& Int32.toUInt32 31)).toInt32) &&& (1431655765 : Int32))) &&& (858993459 : Int32)) + (((Int32.toUInt32 (a1 - (((Int32.toUInt32 a1 >>> (Int32.toUInt32 (1 : Int32) &&& Int32.toUInt32 31)).toInt32) &&& (1431655765 : Int32))) >>> (Int32.toUInt32 (2 : Int32) &&& Int32.toUInt32 31)).toInt32) &&& (858993459 : Int32))) + ((Int32.toUInt32 (((a1 - (((Int32.toUInt32 a1 >>> (Int32.toUInt32 (1 : Int32) &&& Int32.toUInt32 31)).toInt32) &&& (1431655765 : Int32))) &&& (858993459 : Int32)) + (((Int32.toUInt32 (a1 - (((Int32.toUInt32 a1 >>> (Int32.toUInt32 (1 : Int32) &&& Int32.toUInt32 31)).toInt32) &&& (1431655765 : Int32))) >>> (Int32.toUInt32 (2 : Int32) &&& Int32.toUInt32 31)).toInt32) &&& (858993459 : Int32))) >>> (Int32.toUInt32 (4 : Int32) &&& Int32.toUInt32 31)).toInt32)) &&& (252645135 : Int32)) >>> (Int32.toUInt32 (8 : Int32) &&& Int32.toUInt32 31)).toInt32)) >>> (Int32.toUInt32 (16 : Int32) &&& Int32.toUInt32 31)).toInt32)) &&& (63 : Int32))
set_option maxHeartbeats 4000000 in
set_option maxRecDepth 100000 in
theorem tJ6_bitCount_0f7a4 (κ : KK) (l : Launch) (A : Nat → Prop) (B : Heap → Prop) (a1 : Int32) (q : Int32) (h : fJ6_bitCount_0f7a4 a1 = some q) : MM κ l yJ6_bitCount_0f7a4 cJ6_bitCount_0f7a4 1 (some .int) rmJ6_bitCount_0f7a4 A [.int a1] B (some (Value.int q)) B := by
  refine MM.of (by decide +kernel) (Nat.le_of_ble_eq_true rfl) ?_
  intro p e s m below meth c C hnm
  unfold fJ6_bitCount_0f7a4 at h
  refine G_sub (lv' := [(0, .int a1)]) [0] rfl ?_
  refine G_iload_n (pc' := 1) C dJ6_bitCount_0f7a4_0 0 rfl rfl ?_
  refine G_iload_n (pc' := 2) C dJ6_bitCount_0f7a4_1 0 rfl rfl ?_
  refine G_iconst (pc' := 3) (v := (1 : Int32)) C dJ6_bitCount_0f7a4_2 (by decide) rfl ?_
  refine G_iushr (pc' := 4) C dJ6_bitCount_0f7a4_3 rfl ?_
  refine G_ldcw (pc' := 7) C dJ6_bitCount_0f7a4_4 tw_k_J6_265 rfl ?_
  refine G_iand (pc' := 8) C dJ6_bitCount_0f7a4_7 rfl ?_
  refine G_isub (pc' := 9) C dJ6_bitCount_0f7a4_8 rfl ?_
  refine G_istore_n (pc' := 10) C dJ6_bitCount_0f7a4_9 [(0, .int (a1 - (((Int32.toUInt32 a1 >>> (Int32.toUInt32 (1 : Int32) &&& Int32.toUInt32 31)).toInt32) &&& (1431655765 : Int32))))] (by decide) rfl rfl ?_
  refine G_iload_n (pc' := 11) C dJ6_bitCount_0f7a4_10 0 rfl rfl ?_
  refine G_ldcw (pc' := 14) C dJ6_bitCount_0f7a4_11 tw_k_J6_266 rfl ?_
  refine G_iand (pc' := 15) C dJ6_bitCount_0f7a4_14 rfl ?_
  refine G_iload_n (pc' := 16) C dJ6_bitCount_0f7a4_15 0 rfl rfl ?_
  refine G_iconst (pc' := 17) (v := (2 : Int32)) C dJ6_bitCount_0f7a4_16 (by decide) rfl ?_
  refine G_iushr (pc' := 18) C dJ6_bitCount_0f7a4_17 rfl ?_
  refine G_ldcw (pc' := 21) C dJ6_bitCount_0f7a4_18 tw_k_J6_266 rfl ?_
  refine G_iand (pc' := 22) C dJ6_bitCount_0f7a4_21 rfl ?_
  refine G_iadd (pc' := 23) C dJ6_bitCount_0f7a4_22 rfl ?_
  refine G_istore_n (pc' := 24) C dJ6_bitCount_0f7a4_23 [(0, .int (((a1 - (((Int32.toUInt32 a1 >>> (Int32.toUInt32 (1 : Int32) &&& Int32.toUInt32 31)).toInt32) &&& (1431655765 : Int32))) &&& (858993459 : Int32)) + (((Int32.toUInt32 (a1 - (((Int32.toUInt32 a1 >>> (Int32.toUInt32 (1 : Int32) &&& Int32.toUInt32 31)).toInt32) &&& (1431655765 : Int32))) >>> (Int32.toUInt32 (2 : Int32) &&& Int32.toUInt32 31)).toInt32) &&& (858993459 : Int32))))] (by decide) rfl rfl ?_
  refine G_iload_n (pc' := 25) C dJ6_bitCount_0f7a4_24 0 rfl rfl ?_
  refine G_iload_n (pc' := 26) C dJ6_bitCount_0f7a4_25 0 rfl rfl ?_
  refine G_iconst (pc' := 27) (v := (4 : Int32)) C dJ6_bitCount_0f7a4_26 (by decide) rfl ?_
  refine G_iushr (pc' := 28) C dJ6_bitCount_0f7a4_27 rfl ?_
  refine G_iadd (pc' := 29) C dJ6_bitCount_0f7a4_28 rfl ?_
  refine G_ldcw (pc' := 32) C dJ6_bitCount_0f7a4_29 tw_k_J6_267 rfl ?_
  refine G_iand (pc' := 33) C dJ6_bitCount_0f7a4_32 rfl ?_
  refine G_istore_n (pc' := 34) C dJ6_bitCount_0f7a4_33 [(0, .int (((((a1 - (((Int32.toUInt32 a1 >>> (Int32.toUInt32 (1 : Int32) &&& Int32.toUInt32 31)).toInt32) &&& (1431655765 : Int32))) &&& (858993459 : Int32)) + (((Int32.toUInt32 (a1 - (((Int32.toUInt32 a1 >>> (Int32.toUInt32 (1 : Int32) &&& Int32.toUInt32 31)).toInt32) &&& (1431655765 : Int32))) >>> (Int32.toUInt32 (2 : Int32) &&& Int32.toUInt32 31)).toInt32) &&& (858993459 : Int32))) + ((Int32.toUInt32 (((a1 - (((Int32.toUInt32 a1 >>> (Int32.toUInt32 (1 : Int32) &&& Int32.toUInt32 31)).toInt32) &&& (1431655765 : Int32))) &&& (858993459 : Int32)) + (((Int32.toUInt32 (a1 - (((Int32.toUInt32 a1 >>> (Int32.toUInt32 (1 : Int32) &&& Int32.toUInt32 31)).toInt32) &&& (1431655765 : Int32))) >>> (Int32.toUInt32 (2 : Int32) &&& Int32.toUInt32 31)).toInt32) &&& (858993459 : Int32))) >>> (Int32.toUInt32 (4 : Int32) &&& Int32.toUInt32 31)).toInt32)) &&& (252645135 : Int32)))] (by decide) rfl rfl ?_
  refine G_iload_n (pc' := 35) C dJ6_bitCount_0f7a4_34 0 rfl rfl ?_
  refine G_iload_n (pc' := 36) C dJ6_bitCount_0f7a4_35 0 rfl rfl ?_
  refine G_bipush (pc' := 38) (v := (8 : Int32)) C dJ6_bitCount_0f7a4_36 (by decide) rfl ?_
  refine G_iushr (pc' := 39) C dJ6_bitCount_0f7a4_38 rfl ?_
  refine G_iadd (pc' := 40) C dJ6_bitCount_0f7a4_39 rfl ?_
  refine G_istore_n (pc' := 41) C dJ6_bitCount_0f7a4_40 [(0, .int ((((((a1 - (((Int32.toUInt32 a1 >>> (Int32.toUInt32 (1 : Int32) &&& Int32.toUInt32 31)).toInt32) &&& (1431655765 : Int32))) &&& (858993459 : Int32)) + (((Int32.toUInt32 (a1 - (((Int32.toUInt32 a1 >>> (Int32.toUInt32 (1 : Int32) &&& Int32.toUInt32 31)).toInt32) &&& (1431655765 : Int32))) >>> (Int32.toUInt32 (2 : Int32) &&& Int32.toUInt32 31)).toInt32) &&& (858993459 : Int32))) + ((Int32.toUInt32 (((a1 - (((Int32.toUInt32 a1 >>> (Int32.toUInt32 (1 : Int32) &&& Int32.toUInt32 31)).toInt32) &&& (1431655765 : Int32))) &&& (858993459 : Int32)) + (((Int32.toUInt32 (a1 - (((Int32.toUInt32 a1 >>> (Int32.toUInt32 (1 : Int32) &&& Int32.toUInt32 31)).toInt32) &&& (1431655765 : Int32))) >>> (Int32.toUInt32 (2 : Int32) &&& Int32.toUInt32 31)).toInt32) &&& (858993459 : Int32))) >>> (Int32.toUInt32 (4 : Int32) &&& Int32.toUInt32 31)).toInt32)) &&& (252645135 : Int32)) + ((Int32.toUInt32 (((((a1 - (((Int32.toUInt32 a1 >>> (Int32.toUInt32 (1 : Int32) &&& Int32.toUInt32 31)).toInt32) &&& (1431655765 : Int32))) &&& (858993459 : Int32)) + (((Int32.toUInt32 (a1 - (((Int32.toUInt32 a1 >>> (Int32.toUInt32 (1 : Int32) &&& Int32.toUInt32 31)).toInt32) &&& (1431655765 : Int32))) >>> (Int32.toUInt32 (2 : Int32) &&& Int32.toUInt32 31)).toInt32) &&& (858993459 : Int32))) + ((Int32.toUInt32 (((a1 - (((Int32.toUInt32 a1 >>> (Int32.toUInt32 (1 : Int32) &&& Int32.toUInt32 31)).toInt32) &&& (1431655765 : Int32))) &&& (858993459 : Int32)) + (((Int32.toUInt32 (a1 - (((Int32.toUInt32 a1 >>> (Int32.toUInt32 (1 : Int32) &&& Int32.toUInt32 31)).toInt32) &&& (1431655765 : Int32))) >>> (Int32.toUInt32 (2 : Int32) &&& Int32.toUInt32 31)).toInt32) &&& (858993459 : Int32))) >>> (Int32.toUInt32 (4 : Int32) &&& Int32.toUInt32 31)).toInt32)) &&& (252645135 : Int32)) >>> (Int32.toUInt32 (8 : Int32) &&& Int32.toUInt32 31)).toInt32)))] (by decide) rfl rfl ?_
  refine G_iload_n (pc' := 42) C dJ6_bitCount_0f7a4_41 0 rfl rfl ?_
  refine G_iload_n (pc' := 43) C dJ6_bitCount_0f7a4_42 0 rfl rfl ?_
  refine G_bipush (pc' := 45) (v := (16 : Int32)) C dJ6_bitCount_0f7a4_43 (by decide) rfl ?_
  refine G_iushr (pc' := 46) C dJ6_bitCount_0f7a4_45 rfl ?_
  refine G_iadd (pc' := 47) C dJ6_bitCount_0f7a4_46 rfl ?_
  refine G_istore_n (pc' := 48) C dJ6_bitCount_0f7a4_47 [(0, .int (((((((a1 - (((Int32.toUInt32 a1 >>> (Int32.toUInt32 (1 : Int32) &&& Int32.toUInt32 31)).toInt32) &&& (1431655765 : Int32))) &&& (858993459 : Int32)) + (((Int32.toUInt32 (a1 - (((Int32.toUInt32 a1 >>> (Int32.toUInt32 (1 : Int32) &&& Int32.toUInt32 31)).toInt32) &&& (1431655765 : Int32))) >>> (Int32.toUInt32 (2 : Int32) &&& Int32.toUInt32 31)).toInt32) &&& (858993459 : Int32))) + ((Int32.toUInt32 (((a1 - (((Int32.toUInt32 a1 >>> (Int32.toUInt32 (1 : Int32) &&& Int32.toUInt32 31)).toInt32) &&& (1431655765 : Int32))) &&& (858993459 : Int32)) + (((Int32.toUInt32 (a1 - (((Int32.toUInt32 a1 >>> (Int32.toUInt32 (1 : Int32) &&& Int32.toUInt32 31)).toInt32) &&& (1431655765 : Int32))) >>> (Int32.toUInt32 (2 : Int32) &&& Int32.toUInt32 31)).toInt32) &&& (858993459 : Int32))) >>> (Int32.toUInt32 (4 : Int32) &&& Int32.toUInt32 31)).toInt32)) &&& (252645135 : Int32)) + ((Int32.toUInt32 (((((a1 - (((Int32.toUInt32 a1 >>> (Int32.toUInt32 (1 : Int32) &&& Int32.toUInt32 31)).toInt32) &&& (1431655765 : Int32))) &&& (858993459 : Int32)) + (((Int32.toUInt32 (a1 - (((Int32.toUInt32 a1 >>> (Int32.toUInt32 (1 : Int32) &&& Int32.toUInt32 31)).toInt32) &&& (1431655765 : Int32))) >>> (Int32.toUInt32 (2 : Int32) &&& Int32.toUInt32 31)).toInt32) &&& (858993459 : Int32))) + ((Int32.toUInt32 (((a1 - (((Int32.toUInt32 a1 >>> (Int32.toUInt32 (1 : Int32) &&& Int32.toUInt32 31)).toInt32) &&& (1431655765 : Int32))) &&& (858993459 : Int32)) + (((Int32.toUInt32 (a1 - (((Int32.toUInt32 a1 >>> (Int32.toUInt32 (1 : Int32) &&& Int32.toUInt32 31)).toInt32) &&& (1431655765 : Int32))) >>> (Int32.toUInt32 (2 : Int32) &&& Int32.toUInt32 31)).toInt32) &&& (858993459 : Int32))) >>> (Int32.toUInt32 (4 : Int32) &&& Int32.toUInt32 31)).toInt32)) &&& (252645135 : Int32)) >>> (Int32.toUInt32 (8 : Int32) &&& Int32.toUInt32 31)).toInt32)) + ((Int32.toUInt32 ((((((a1 - (((Int32.toUInt32 a1 >>> (Int32.toUInt32 (1 : Int32) &&& Int32.toUInt32 31)).toInt32) &&& (1431655765 : Int32))) &&& (858993459 : Int32)) + (((Int32.toUInt32 (a1 - (((Int32.toUInt32 a1 >>> (Int32.toUInt32 (1 : Int32) &&& Int32.toUInt32 31)).toInt32) &&& (1431655765 : Int32))) >>> (Int32.toUInt32 (2 : Int32) &&& Int32.toUInt32 31)).toInt32) &&& (858993459 : Int32))) + ((Int32.toUInt32 (((a1 - (((Int32.toUInt32 a1 >>> (Int32.toUInt32 (1 : Int32) &&& Int32.toUInt32 31)).toInt32) &&& (1431655765 : Int32))) &&& (858993459 : Int32)) + (((Int32.toUInt32 (a1 - (((Int32.toUInt32 a1 >>> (Int32.toUInt32 (1 : Int32) &&& Int32.toUInt32 31)).toInt32) &&& (1431655765 : Int32))) >>> (Int32.toUInt32 (2 : Int32) &&& Int32.toUInt32 31)).toInt32) &&& (858993459 : Int32))) >>> (Int32.toUInt32 (4 : Int32) &&& Int32.toUInt32 31)).toInt32)) &&& (252645135 : Int32)) + ((Int32.toUInt32 (((((a1 - (((Int32.toUInt32 a1 >>> (Int32.toUInt32 (1 : Int32) &&& Int32.toUInt32 31)).toInt32) &&& (1431655765 : Int32))) &&& (858993459 : Int32)) + (((Int32.toUInt32 (a1 - (((Int32.toUInt32 a1 >>> (Int32.toUInt32 (1 : Int32) &&& Int32.toUInt32 31)).toInt32) &&& (1431655765 : Int32))) >>> (Int32.toUInt32 (2 : Int32) &&& Int32.toUInt32 31)).toInt32) &&& (858993459 : Int32))) + ((Int32.toUInt32 (((a1 - (((Int32.toUInt32 a1 >>> (Int32.toUInt32 (1 : Int32) &&& Int32.toUInt32 31)).toInt32) &&& (1431655765 : Int32))) &&& (858993459 : Int32)) + (((Int32.toUInt32 (a1 - (((Int32.toUInt32 a1 >>> (Int32.toUInt32 (1 : Int32) &&& Int32.toUInt32 31)).toInt32) &&& (1431655765 : Int32))) >>> (Int32.toUInt32 (2 : Int32) &&& Int32.toUInt32 31)).toInt32) &&& (858993459 : Int32))) >>> (Int32.toUInt32 (4 : Int32) &&& Int32.toUInt32 31)).toInt32)) &&& (252645135 : Int32)) >>> (Int32.toUInt32 (8 : Int32) &&& Int32.toUInt32 31)).toInt32)) >>> (Int32.toUInt32 (16 : Int32) &&& Int32.toUInt32 31)).toInt32)))] (by decide) rfl rfl ?_
  refine G_iload_n (pc' := 49) C dJ6_bitCount_0f7a4_48 0 rfl rfl ?_
  refine G_bipush (pc' := 51) (v := (63 : Int32)) C dJ6_bitCount_0f7a4_49 (by decide) rfl ?_
  refine G_iand (pc' := 52) C dJ6_bitCount_0f7a4_51 rfl ?_
  obtain rfl := Option.some.inj h
  exact G_iret C dJ6_bitCount_0f7a4_52 (fun _ h => h)
theorem dX9_unlikeOnLevel_0 : decode cX9_unlikeOnLevel 0 = .ok (.iconst 0, 1) := by decide +kernel
theorem dX9_unlikeOnLevel_1 : decode cX9_unlikeOnLevel 1 = .ok (.istore_n 2, 1) := by decide +kernel
theorem dX9_unlikeOnLevel_2 : decode cX9_unlikeOnLevel 2 = .ok (.iload_n 2, 1) := by decide +kernel
theorem dX9_unlikeOnLevel_3 : decode cX9_unlikeOnLevel 3 = .ok (.aload_n 0, 1) := by decide +kernel
theorem dX9_unlikeOnLevel_4 : decode cX9_unlikeOnLevel 4 = .ok (.getfield 155, 3) := by decide +kernel
theorem dX9_unlikeOnLevel_7 : decode cX9_unlikeOnLevel 7 = .ok (.arraylength, 1) := by decide +kernel
theorem dX9_unlikeOnLevel_8 : decode cX9_unlikeOnLevel 8 = .ok (.if_icmp .ge 31, 3) := by decide +kernel
theorem dX9_unlikeOnLevel_11 : decode cX9_unlikeOnLevel 11 = .ok (.aload_n 0, 1) := by decide +kernel
theorem dX9_unlikeOnLevel_12 : decode cX9_unlikeOnLevel 12 = .ok (.getfield 155, 3) := by decide +kernel
theorem dX9_unlikeOnLevel_15 : decode cX9_unlikeOnLevel 15 = .ok (.iload_n 2, 1) := by decide +kernel
theorem dX9_unlikeOnLevel_16 : decode cX9_unlikeOnLevel 16 = .ok (.baload, 1) := by decide +kernel
theorem dX9_unlikeOnLevel_17 : decode cX9_unlikeOnLevel 17 = .ok (.ifCond .ne 16, 3) := by decide +kernel
theorem dX9_unlikeOnLevel_20 : decode cX9_unlikeOnLevel 20 = .ok (.iload_n 2, 1) := by decide +kernel
theorem dX9_unlikeOnLevel_21 : decode cX9_unlikeOnLevel 21 = .ok (.invokestatic 171, 3) := by decide +kernel
theorem dX9_unlikeOnLevel_24 : decode cX9_unlikeOnLevel 24 = .ok (.iload_n 1, 1) := by decide +kernel
theorem dX9_unlikeOnLevel_25 : decode cX9_unlikeOnLevel 25 = .ok (.invokestatic 171, 3) := by decide +kernel
theorem dX9_unlikeOnLevel_28 : decode cX9_unlikeOnLevel 28 = .ok (.if_icmp .ne 5, 3) := by decide +kernel
theorem dX9_unlikeOnLevel_31 : decode cX9_unlikeOnLevel 31 = .ok (.iload_n 2, 1) := by decide +kernel
theorem dX9_unlikeOnLevel_32 : decode cX9_unlikeOnLevel 32 = .ok (.ireturn, 1) := by decide +kernel
theorem dX9_unlikeOnLevel_33 : decode cX9_unlikeOnLevel 33 = .ok (.iinc 2 1, 3) := by decide +kernel
theorem dX9_unlikeOnLevel_36 : decode cX9_unlikeOnLevel 36 = .ok (.goto (-34), 3) := by decide +kernel
theorem dX9_unlikeOnLevel_39 : decode cX9_unlikeOnLevel 39 = .ok (.iconst (-1), 1) := by decide +kernel
theorem dX9_unlikeOnLevel_40 : decode cX9_unlikeOnLevel 40 = .ok (.ireturn, 1) := by decide +kernel
theorem yd_X9_unlikeOnLevel : yX9_unlikeOnLevel.cls ≠ "java/lang/invoke/MethodHandle" ∧ yX9_unlikeOnLevel.cls ≠ "java/lang/invoke/VarHandle" ∧ (parseMethodDescriptor yX9_unlikeOnLevel.desc).map (fun d => d.parameters.length) = some 2 := by decide +kernel
abbrev rmX9_unlikeOnLevel : Room := { frames := 1, cells := 0, slots := 0, locals := 20 }
def fX9_unlikeOnLevel_L2_J33 (o : Nat) (z : CS) (l0 : Nat) (l1 : Int32) (l2 : Int32) : Option (Int32 ⊕ (Unit ⊕ Int32)) :=
  some (.inl (l2 + (1 : Int32)))
def fX9_unlikeOnLevel_L2 (o : Nat) (z : CS) (l0 : Nat) (l1 : Int32) (l2 : Int32) : Option (Int32 ⊕ (Unit ⊕ Int32)) :=
  (dT z l0).bind fun t1 =>
  (t1.2.2.2).bind fun ad2 =>
  (lnB z ad2).bind fun v3 =>
  if v3 ≤ l2 then
    some (.inr (.inl ()))
  else
    (dT z l0).bind fun t4 =>
    (t4.2.2.2).bind fun ad5 =>
    (rdB z ad5 l2).bind fun v6 =>
    if v6 = 0 then
      (fJ6_bitCount_0f7a4 l2).bind fun q7 =>
      (fJ6_bitCount_0f7a4 l1).bind fun q8 =>
      if q7 = q8 then
        some (.inr (.inr l2))
      else
        fX9_unlikeOnLevel_L2_J33 o z l0 l1 l2
    else
      fX9_unlikeOnLevel_L2_J33 o z l0 l1 l2
def fX9_unlikeOnLevel (o : Nat) (z : CS) (a1 : Nat) (a2 : Int32) : Option (Int32) :=
  (lpN (fun u => fX9_unlikeOnLevel_L2 o z a1 a2 u) bigN (0 : Int32)).bind fun e9 =>
  sel e9 (fun x10 =>
    some (-1 : Int32)
    ) (fun rt => some rt)
set_option maxHeartbeats 4000000 in
set_option maxRecDepth 100000 in
theorem tX9_unlikeOnLevel_L2 {κ : KK} {p : Program} {l : Launch} {e : Env} {s : State} {m : MethodId} {args : Array Value} {below : List Frame} {meth : Method} {c : Code} (C : Cx κ p s m args meth c cX9_unlikeOnLevel 3 RX9 (some .int)) {o : Nat} {v : Option Value} {B' : Heap → Prop} {z : CS} {l0 : Nat} {l1 : Int32} {l2 : Int32} {y : Int32 ⊕ (Unit ⊕ Int32)} (h : fX9_unlikeOnLevel_L2 o z l0 l1 l2 = some y) (kc : ∀ u, y = .inl u → GC κ p l e s m args below meth c rmX9_unlikeOnLevel 3 o v B' 0 0 z 2 [(0, .ref l0), (1, .int l1), (2, .int u)] []) (kx : ∀ w, y = .inr w → (∀ x, w = .inl x → GC κ p l e s m args below meth c rmX9_unlikeOnLevel 3 o v B' 0 0 z 39 [] []) ∧ (∀ rt, w = .inr rt → v = (some (Value.int rt)) ∧ B' = (CB κ o z))) : GC κ p l e s m args below meth c rmX9_unlikeOnLevel 3 o v B' 0 0 z 2 [(0, .ref l0), (1, .int l1), (2, .int l2)] [] := by
  have J33 : ∀ (l2 : Int32), fX9_unlikeOnLevel_L2_J33 o z l0 l1 l2 = some y → GC κ p l e s m args below meth c rmX9_unlikeOnLevel 3 o v B' 0 0 z 33 [(0, .ref l0), (1, .int l1), (2, .int l2)] [] := by
    intro l2 h
    unfold fX9_unlikeOnLevel_L2_J33 at h
    refine G_iinc (pc' := 36) C dX9_unlikeOnLevel_33 2 rfl rfl [(2, .int (l2 + (1 : Int32))), (0, .ref l0), (1, .int l1)] (by decide) rfl rfl ?_
    refine G_goto (tgt := 2) C dX9_unlikeOnLevel_36 (by decide) ?_
    exact G_sub (lv' := [(0, .ref l0), (1, .int l1), (2, .int (l2 + (1 : Int32)))]) [1, 2, 0] rfl (kc (l2 + (1 : Int32)) (Option.some.inj h).symm)
  unfold fX9_unlikeOnLevel_L2 at h
  refine G_iload_n (pc' := 3) C dX9_unlikeOnLevel_2 2 rfl rfl ?_
  refine G_aload_n (pc' := 4) C dX9_unlikeOnLevel_3 0 rfl rfl ?_
  replace h := ob h
  obtain ⟨t1, ht1, h⟩ := h
  refine G_get (pc' := 7) (k := 3) C fi_X8 dX9_unlikeOnLevel_4 tw_fl_X9_155 rfl (by decide) (CB_T ht1) rfl rfl ?_
  replace h := ob h
  obtain ⟨ad2, had2, h⟩ := h
  rw [had2]
  replace h := ob h
  obtain ⟨v3, hv3, h⟩ := h
  refine P_lenB (pc' := 8) C dX9_unlikeOnLevel_7 hv3 rfl ?_
  refine G_icmp_ge (tgt := 39) (pc' := 11) C dX9_unlikeOnLevel_8 (by decide) rfl (fun hc => ?_) (fun hc => ?_)
  · replace h := z_ip hc h
    exact G_sub (lv' := []) [] rfl ((kx _ (Option.some.inj h).symm).1 _ rfl)
  · replace h := z_in hc h
    refine G_aload_n (pc' := 12) C dX9_unlikeOnLevel_11 0 rfl rfl ?_
    replace h := ob h
    obtain ⟨t4, ht4, h⟩ := h
    refine G_get (pc' := 15) (k := 3) C fi_X8 dX9_unlikeOnLevel_12 tw_fl_X9_155 rfl (by decide) (CB_T ht4) rfl rfl ?_
    refine G_iload_n (pc' := 16) C dX9_unlikeOnLevel_15 2 rfl rfl ?_
    replace h := ob h
    obtain ⟨ad5, had5, h⟩ := h
    rw [had5]
    replace h := ob h
    obtain ⟨v6, hv6, h⟩ := h
    refine P_bald (pc' := 17) C dX9_unlikeOnLevel_16 hv6 rfl ?_
    refine G_if_ne (tgt := 33) (pc' := 20) C dX9_unlikeOnLevel_17 (by decide) rfl (fun hc => ?_) (fun hc => ?_)
    · replace h := z_in hc h
      exact G_sub (lv' := [(0, .ref l0), (1, .int l1), (2, .int l2)]) [0, 1, 2] rfl (J33 l2 h)
    · replace h := z_ip hc h
      refine G_iload_n (pc' := 21) C dX9_unlikeOnLevel_20 2 rfl rfl ?_
      replace h := ob h
      obtain ⟨q7, hq7, h⟩ := h
      refine G_cS0 (pc' := 24) C dX9_unlikeOnLevel_21 (tJ6_bitCount_0f7a4 κ l (CA o) (CB κ o z) l2 q7 hq7) (wS tw_ml_X9_171 tw_st_J6_bitCount_0f7a4 tw_co_J6_bitCount_0f7a4 tw_in_J6) yd_J6_bitCount_0f7a4 rfl rfl rfl (by decide) rfl (Nat.le_of_ble_eq_true rfl) rfl rfl ?_
      refine G_iload_n (pc' := 25) C dX9_unlikeOnLevel_24 1 rfl rfl ?_
      replace h := ob h
      obtain ⟨q8, hq8, h⟩ := h
      refine G_cS0 (pc' := 28) C dX9_unlikeOnLevel_25 (tJ6_bitCount_0f7a4 κ l (CA o) (CB κ o z) l1 q8 hq8) (wS tw_ml_X9_171 tw_st_J6_bitCount_0f7a4 tw_co_J6_bitCount_0f7a4 tw_in_J6) yd_J6_bitCount_0f7a4 rfl rfl rfl (by decide) rfl (Nat.le_of_ble_eq_true rfl) rfl rfl ?_
      refine G_icmp_ne (tgt := 33) (pc' := 31) C dX9_unlikeOnLevel_28 (by decide) rfl (fun hc => ?_) (fun hc => ?_)
      · replace h := z_in hc h
        exact G_sub (lv' := [(0, .ref l0), (1, .int l1), (2, .int l2)]) [0, 1, 2] rfl (J33 l2 h)
      · replace h := z_ip hc h
        refine G_iload_n (pc' := 32) C dX9_unlikeOnLevel_31 2 rfl rfl ?_
        obtain ⟨hv, hB⟩ := (kx _ (Option.some.inj h).symm).2 _ rfl
        subst hv
        subst hB
        exact G_iret C dX9_unlikeOnLevel_32 (fun _ h => h)
set_option maxHeartbeats 4000000 in
set_option maxRecDepth 100000 in
theorem tX9_unlikeOnLevel (κ : KK) (l : Launch) (o : Nat) (z : CS) (a1 : Nat) (a2 : Int32) (q : Int32) (h : fX9_unlikeOnLevel o z a1 a2 = some q) : MM κ l yX9_unlikeOnLevel cX9_unlikeOnLevel 3 (some .int) rmX9_unlikeOnLevel (CA o) [.ref a1, .int a2] (CB κ o z) (some (Value.int q)) (CB κ o z) := by
  refine MM.of (by decide +kernel) (Nat.le_of_ble_eq_true rfl) ?_
  intro p e s m below meth c C hnm
  unfold fX9_unlikeOnLevel at h
  refine G_sub (lv' := [(0, .ref a1), (1, .int a2)]) [0, 1] rfl ?_
  refine G_iconst (pc' := 1) (v := (0 : Int32)) C dX9_unlikeOnLevel_0 (by decide) rfl ?_
  refine G_istore_n (pc' := 2) C dX9_unlikeOnLevel_1 [(2, .int (0 : Int32)), (0, .ref a1), (1, .int a2)] (by decide) rfl rfl ?_
  replace h := ob h
  obtain ⟨e9, hle9, h⟩ := h
  refine G_sub (lv' := [(0, .ref a1), (1, .int a2), (2, .int (0 : Int32))]) [1, 2, 0] rfl ?_
  refine lpN_ind (body := fun u => fX9_unlikeOnLevel_L2 o z a1 a2 u) (P := fun u => GC κ p l e s m ([.ref a1, .int a2] : List Value).toArray below meth c rmX9_unlikeOnLevel 3 o (some (Value.int q)) (CB κ o z) 0 0 z 2 [(0, .ref a1), (1, .int a2), (2, .int u)] []) (X := fun w => (∀ x, w = .inl x → GC κ p l e s m ([.ref a1, .int a2] : List Value).toArray below meth c rmX9_unlikeOnLevel 3 o (some (Value.int q)) (CB κ o z) 0 0 z 39 [] []) ∧ (∀ rt, w = .inr rt → (some (Value.int q)) = (some (Value.int rt)) ∧ (CB κ o z) = (CB κ o z))) (fun u y hb kc kx => tX9_unlikeOnLevel_L2 C hb kc kx) _ _ _ hle9 ?_
  refine ⟨fun x10 hxx10 => ?_, fun rt hrt => ?_⟩
  · subst hxx10
    replace h := z_sl h
    refine G_iconst (pc' := 40) (v := (-1 : Int32)) C dX9_unlikeOnLevel_39 (by decide) rfl ?_
    obtain rfl := Option.some.inj h
    exact G_iret C dX9_unlikeOnLevel_40 (fun _ h => h)
  · subst hrt
    replace h := z_sr h
    obtain rfl := Option.some.inj h
    exact ⟨rfl, rfl⟩
theorem dX9_fallingFrom_0 : decode cX9_fallingFrom 0 = .ok (.iconst 0, 1) := by decide +kernel
theorem dX9_fallingFrom_1 : decode cX9_fallingFrom 1 = .ok (.istore_n 2, 1) := by decide +kernel
theorem dX9_fallingFrom_2 : decode cX9_fallingFrom 2 = .ok (.iload_n 2, 1) := by decide +kernel
theorem dX9_fallingFrom_3 : decode cX9_fallingFrom 3 = .ok (.aload_n 0, 1) := by decide +kernel
theorem dX9_fallingFrom_4 : decode cX9_fallingFrom 4 = .ok (.getfield 152, 3) := by decide +kernel
theorem dX9_fallingFrom_7 : decode cX9_fallingFrom 7 = .ok (.if_icmp .ge 31, 3) := by decide +kernel
theorem dX9_fallingFrom_10 : decode cX9_fallingFrom 10 = .ok (.iload_n 1, 1) := by decide +kernel
theorem dX9_fallingFrom_11 : decode cX9_fallingFrom 11 = .ok (.iconst 1, 1) := by decide +kernel
theorem dX9_fallingFrom_12 : decode cX9_fallingFrom 12 = .ok (.iload_n 2, 1) := by decide +kernel
theorem dX9_fallingFrom_13 : decode cX9_fallingFrom 13 = .ok (.ishl, 1) := by decide +kernel
theorem dX9_fallingFrom_14 : decode cX9_fallingFrom 14 = .ok (.ior, 1) := by decide +kernel
theorem dX9_fallingFrom_15 : decode cX9_fallingFrom 15 = .ok (.istore_n 3, 1) := by decide +kernel
theorem dX9_fallingFrom_16 : decode cX9_fallingFrom 16 = .ok (.iload_n 3, 1) := by decide +kernel
theorem dX9_fallingFrom_17 : decode cX9_fallingFrom 17 = .ok (.iload_n 1, 1) := by decide +kernel
theorem dX9_fallingFrom_18 : decode cX9_fallingFrom 18 = .ok (.if_icmp .eq 14, 3) := by decide +kernel
theorem dX9_fallingFrom_21 : decode cX9_fallingFrom 21 = .ok (.aload_n 0, 1) := by decide +kernel
theorem dX9_fallingFrom_22 : decode cX9_fallingFrom 22 = .ok (.getfield 155, 3) := by decide +kernel
theorem dX9_fallingFrom_25 : decode cX9_fallingFrom 25 = .ok (.iload_n 3, 1) := by decide +kernel
theorem dX9_fallingFrom_26 : decode cX9_fallingFrom 26 = .ok (.baload, 1) := by decide +kernel
theorem dX9_fallingFrom_27 : decode cX9_fallingFrom 27 = .ok (.ifCond .ne 5, 3) := by decide +kernel
theorem dX9_fallingFrom_30 : decode cX9_fallingFrom 30 = .ok (.iload_n 3, 1) := by decide +kernel
theorem dX9_fallingFrom_31 : decode cX9_fallingFrom 31 = .ok (.ireturn, 1) := by decide +kernel
theorem dX9_fallingFrom_32 : decode cX9_fallingFrom 32 = .ok (.iinc 2 1, 3) := by decide +kernel
theorem dX9_fallingFrom_35 : decode cX9_fallingFrom 35 = .ok (.goto (-33), 3) := by decide +kernel
theorem dX9_fallingFrom_38 : decode cX9_fallingFrom 38 = .ok (.iconst (-1), 1) := by decide +kernel
theorem dX9_fallingFrom_39 : decode cX9_fallingFrom 39 = .ok (.ireturn, 1) := by decide +kernel
theorem yd_X9_fallingFrom : yX9_fallingFrom.cls ≠ "java/lang/invoke/MethodHandle" ∧ yX9_fallingFrom.cls ≠ "java/lang/invoke/VarHandle" ∧ (parseMethodDescriptor yX9_fallingFrom.desc).map (fun d => d.parameters.length) = some 2 := by decide +kernel
abbrev rmX9_fallingFrom : Room := { frames := 0, cells := 0, slots := 0, locals := 0 }
def fX9_fallingFrom_L2_J32 (o : Nat) (z : CS) (l0 : Nat) (l1 : Int32) (l2 : Int32) : Option (Int32 ⊕ (Unit ⊕ Int32)) :=
  some (.inl (l2 + (1 : Int32)))
def fX9_fallingFrom_L2 (o : Nat) (z : CS) (l0 : Nat) (l1 : Int32) (l2 : Int32) : Option (Int32 ⊕ (Unit ⊕ Int32)) :=
  (dT z l0).bind fun t1 =>
  if t1.2.1 ≤ l2 then
    some (.inr (.inl ()))
  else
    if (l1 ||| ((1 : Int32) <<< (l2 &&& 31))) = l1 then
      fX9_fallingFrom_L2_J32 o z l0 l1 l2
    else
      (dT z l0).bind fun t2 =>
      (t2.2.2.2).bind fun ad3 =>
      (rdB z ad3 (l1 ||| ((1 : Int32) <<< (l2 &&& 31)))).bind fun v4 =>
      if v4 = 0 then
        some (.inr (.inr (l1 ||| ((1 : Int32) <<< (l2 &&& 31)))))
      else
        fX9_fallingFrom_L2_J32 o z l0 l1 l2
def fX9_fallingFrom (o : Nat) (z : CS) (a1 : Nat) (a2 : Int32) : Option (Int32) :=
  (lpN (fun u => fX9_fallingFrom_L2 o z a1 a2 u) bigN (0 : Int32)).bind fun e5 =>
  sel e5 (fun x6 =>
    some (-1 : Int32)
    ) (fun rt => some rt)
set_option maxHeartbeats 4000000 in
set_option maxRecDepth 100000 in
theorem tX9_fallingFrom_L2 {κ : KK} {p : Program} {l : Launch} {e : Env} {s : State} {m : MethodId} {args : Array Value} {below : List Frame} {meth : Method} {c : Code} (C : Cx κ p s m args meth c cX9_fallingFrom 4 RX9 (some .int)) {o : Nat} {v : Option Value} {B' : Heap → Prop} {z : CS} {l0 : Nat} {l1 : Int32} {l2 : Int32} {y : Int32 ⊕ (Unit ⊕ Int32)} (h : fX9_fallingFrom_L2 o z l0 l1 l2 = some y) (kc : ∀ u, y = .inl u → GC κ p l e s m args below meth c rmX9_fallingFrom 4 o v B' 0 0 z 2 [(0, .ref l0), (1, .int l1), (2, .int u)] []) (kx : ∀ w, y = .inr w → (∀ x, w = .inl x → GC κ p l e s m args below meth c rmX9_fallingFrom 4 o v B' 0 0 z 38 [] []) ∧ (∀ rt, w = .inr rt → v = (some (Value.int rt)) ∧ B' = (CB κ o z))) : GC κ p l e s m args below meth c rmX9_fallingFrom 4 o v B' 0 0 z 2 [(0, .ref l0), (1, .int l1), (2, .int l2)] [] := by
  have J32 : ∀ (l2 : Int32), fX9_fallingFrom_L2_J32 o z l0 l1 l2 = some y → GC κ p l e s m args below meth c rmX9_fallingFrom 4 o v B' 0 0 z 32 [(0, .ref l0), (1, .int l1), (2, .int l2)] [] := by
    intro l2 h
    unfold fX9_fallingFrom_L2_J32 at h
    refine G_iinc (pc' := 35) C dX9_fallingFrom_32 2 rfl rfl [(2, .int (l2 + (1 : Int32))), (0, .ref l0), (1, .int l1)] (by decide) rfl rfl ?_
    refine G_goto (tgt := 2) C dX9_fallingFrom_35 (by decide) ?_
    exact G_sub (lv' := [(0, .ref l0), (1, .int l1), (2, .int (l2 + (1 : Int32)))]) [1, 2, 0] rfl (kc (l2 + (1 : Int32)) (Option.some.inj h).symm)
  unfold fX9_fallingFrom_L2 at h
  refine G_iload_n (pc' := 3) C dX9_fallingFrom_2 2 rfl rfl ?_
  refine G_aload_n (pc' := 4) C dX9_fallingFrom_3 0 rfl rfl ?_
  replace h := ob h
  obtain ⟨t1, ht1, h⟩ := h
  refine G_get (pc' := 7) (k := 1) C fi_X8 dX9_fallingFrom_4 tw_fl_X9_152 rfl (by decide) (CB_T ht1) rfl rfl ?_
  refine G_icmp_ge (tgt := 38) (pc' := 10) C dX9_fallingFrom_7 (by decide) rfl (fun hc => ?_) (fun hc => ?_)
  · replace h := z_ip hc h
    exact G_sub (lv' := []) [] rfl ((kx _ (Option.some.inj h).symm).1 _ rfl)
  · replace h := z_in hc h
    refine G_iload_n (pc' := 11) C dX9_fallingFrom_10 1 rfl rfl ?_
    refine G_iconst (pc' := 12) (v := (1 : Int32)) C dX9_fallingFrom_11 (by decide) rfl ?_
    refine G_iload_n (pc' := 13) C dX9_fallingFrom_12 2 rfl rfl ?_
    refine G_ishl (pc' := 14) C dX9_fallingFrom_13 rfl ?_
    refine G_ior (pc' := 15) C dX9_fallingFrom_14 rfl ?_
    refine G_istore_n (pc' := 16) C dX9_fallingFrom_15 [(3, .int (l1 ||| ((1 : Int32) <<< (l2 &&& 31)))), (0, .ref l0), (1, .int l1), (2, .int l2)] (by decide) rfl rfl ?_
    refine G_iload_n (pc' := 17) C dX9_fallingFrom_16 0 rfl rfl ?_
    refine G_iload_n (pc' := 18) C dX9_fallingFrom_17 2 rfl rfl ?_
    refine G_icmp_eq (tgt := 32) (pc' := 21) C dX9_fallingFrom_18 (by decide) rfl (fun hc => ?_) (fun hc => ?_)
    · replace h := z_ip hc h
      exact G_sub (lv' := [(0, .ref l0), (1, .int l1), (2, .int l2)]) [1, 2, 3] rfl (J32 l2 h)
    · replace h := z_in hc h
      refine G_aload_n (pc' := 22) C dX9_fallingFrom_21 1 rfl rfl ?_
      replace h := ob h
      obtain ⟨t2, ht2, h⟩ := h
      refine G_get (pc' := 25) (k := 3) C fi_X8 dX9_fallingFrom_22 tw_fl_X9_155 rfl (by decide) (CB_T ht2) rfl rfl ?_
      refine G_iload_n (pc' := 26) C dX9_fallingFrom_25 0 rfl rfl ?_
      replace h := ob h
      obtain ⟨ad3, had3, h⟩ := h
      rw [had3]
      replace h := ob h
      obtain ⟨v4, hv4, h⟩ := h
      refine P_bald (pc' := 27) C dX9_fallingFrom_26 hv4 rfl ?_
      refine G_if_ne (tgt := 32) (pc' := 30) C dX9_fallingFrom_27 (by decide) rfl (fun hc => ?_) (fun hc => ?_)
      · replace h := z_in hc h
        exact G_sub (lv' := [(0, .ref l0), (1, .int l1), (2, .int l2)]) [1, 2, 3] rfl (J32 l2 h)
      · replace h := z_ip hc h
        refine G_iload_n (pc' := 31) C dX9_fallingFrom_30 0 rfl rfl ?_
        obtain ⟨hv, hB⟩ := (kx _ (Option.some.inj h).symm).2 _ rfl
        subst hv
        subst hB
        exact G_iret C dX9_fallingFrom_31 (fun _ h => h)
set_option maxHeartbeats 4000000 in
set_option maxRecDepth 100000 in
theorem tX9_fallingFrom (κ : KK) (l : Launch) (o : Nat) (z : CS) (a1 : Nat) (a2 : Int32) (q : Int32) (h : fX9_fallingFrom o z a1 a2 = some q) : MM κ l yX9_fallingFrom cX9_fallingFrom 4 (some .int) rmX9_fallingFrom (CA o) [.ref a1, .int a2] (CB κ o z) (some (Value.int q)) (CB κ o z) := by
  refine MM.of (by decide +kernel) (Nat.le_of_ble_eq_true rfl) ?_
  intro p e s m below meth c C hnm
  unfold fX9_fallingFrom at h
  refine G_sub (lv' := [(0, .ref a1), (1, .int a2)]) [0, 1] rfl ?_
  refine G_iconst (pc' := 1) (v := (0 : Int32)) C dX9_fallingFrom_0 (by decide) rfl ?_
  refine G_istore_n (pc' := 2) C dX9_fallingFrom_1 [(2, .int (0 : Int32)), (0, .ref a1), (1, .int a2)] (by decide) rfl rfl ?_
  replace h := ob h
  obtain ⟨e5, hle5, h⟩ := h
  refine G_sub (lv' := [(0, .ref a1), (1, .int a2), (2, .int (0 : Int32))]) [1, 2, 0] rfl ?_
  refine lpN_ind (body := fun u => fX9_fallingFrom_L2 o z a1 a2 u) (P := fun u => GC κ p l e s m ([.ref a1, .int a2] : List Value).toArray below meth c rmX9_fallingFrom 4 o (some (Value.int q)) (CB κ o z) 0 0 z 2 [(0, .ref a1), (1, .int a2), (2, .int u)] []) (X := fun w => (∀ x, w = .inl x → GC κ p l e s m ([.ref a1, .int a2] : List Value).toArray below meth c rmX9_fallingFrom 4 o (some (Value.int q)) (CB κ o z) 0 0 z 38 [] []) ∧ (∀ rt, w = .inr rt → (some (Value.int q)) = (some (Value.int rt)) ∧ (CB κ o z) = (CB κ o z))) (fun u y hb kc kx => tX9_fallingFrom_L2 C hb kc kx) _ _ _ hle5 ?_
  refine ⟨fun x6 hxx6 => ?_, fun rt hrt => ?_⟩
  · subst hxx6
    replace h := z_sl h
    refine G_iconst (pc' := 39) (v := (-1 : Int32)) C dX9_fallingFrom_38 (by decide) rfl ?_
    obtain rfl := Option.some.inj h
    exact G_iret C dX9_fallingFrom_39 (fun _ h => h)
  · subst hrt
    replace h := z_sr h
    obtain rfl := Option.some.inj h
    exact ⟨rfl, rfl⟩
theorem dX9_pairAgainst_0 : decode cX9_pairAgainst 0 = .ok (.iload_n 1, 1) := by decide +kernel
theorem dX9_pairAgainst_1 : decode cX9_pairAgainst 1 = .ok (.ifCond .ne 5, 3) := by decide +kernel
theorem dX9_pairAgainst_4 : decode cX9_pairAgainst 4 = .ok (.iconst (-1), 1) := by decide +kernel
theorem dX9_pairAgainst_5 : decode cX9_pairAgainst 5 = .ok (.ireturn, 1) := by decide +kernel
theorem dX9_pairAgainst_6 : decode cX9_pairAgainst 6 = .ok (.aload_n 0, 1) := by decide +kernel
theorem dX9_pairAgainst_7 : decode cX9_pairAgainst 7 = .ok (.iconst 2, 1) := by decide +kernel
theorem dX9_pairAgainst_8 : decode cX9_pairAgainst 8 = .ok (.invokevirtual 162, 3) := by decide +kernel
theorem dX9_pairAgainst_11 : decode cX9_pairAgainst 11 = .ok (.istore_n 2, 1) := by decide +kernel
theorem dX9_pairAgainst_12 : decode cX9_pairAgainst 12 = .ok (.iload_n 2, 1) := by decide +kernel
theorem dX9_pairAgainst_13 : decode cX9_pairAgainst 13 = .ok (.iconst (-1), 1) := by decide +kernel
theorem dX9_pairAgainst_14 : decode cX9_pairAgainst 14 = .ok (.if_icmp .eq 11, 3) := by decide +kernel
theorem dX9_pairAgainst_17 : decode cX9_pairAgainst 17 = .ok (.iload_n 2, 1) := by decide +kernel
theorem dX9_pairAgainst_18 : decode cX9_pairAgainst 18 = .ok (.sipush 256, 3) := by decide +kernel
theorem dX9_pairAgainst_21 : decode cX9_pairAgainst 21 = .ok (.imul, 1) := by decide +kernel
theorem dX9_pairAgainst_22 : decode cX9_pairAgainst 22 = .ok (.iload_n 2, 1) := by decide +kernel
theorem dX9_pairAgainst_23 : decode cX9_pairAgainst 23 = .ok (.iadd, 1) := by decide +kernel
theorem dX9_pairAgainst_24 : decode cX9_pairAgainst 24 = .ok (.ireturn, 1) := by decide +kernel
theorem dX9_pairAgainst_25 : decode cX9_pairAgainst 25 = .ok (.iconst 0, 1) := by decide +kernel
theorem dX9_pairAgainst_26 : decode cX9_pairAgainst 26 = .ok (.istore_n 3, 1) := by decide +kernel
theorem dX9_pairAgainst_27 : decode cX9_pairAgainst 27 = .ok (.iload_n 3, 1) := by decide +kernel
theorem dX9_pairAgainst_28 : decode cX9_pairAgainst 28 = .ok (.aload_n 0, 1) := by decide +kernel
theorem dX9_pairAgainst_29 : decode cX9_pairAgainst 29 = .ok (.getfield 155, 3) := by decide +kernel
theorem dX9_pairAgainst_32 : decode cX9_pairAgainst 32 = .ok (.arraylength, 1) := by decide +kernel
theorem dX9_pairAgainst_33 : decode cX9_pairAgainst 33 = .ok (.if_icmp .ge 58, 3) := by decide +kernel
theorem dX9_pairAgainst_36 : decode cX9_pairAgainst 36 = .ok (.aload_n 0, 1) := by decide +kernel
theorem dX9_pairAgainst_37 : decode cX9_pairAgainst 37 = .ok (.getfield 155, 3) := by decide +kernel
theorem dX9_pairAgainst_40 : decode cX9_pairAgainst 40 = .ok (.iload_n 3, 1) := by decide +kernel
theorem dX9_pairAgainst_41 : decode cX9_pairAgainst 41 = .ok (.baload, 1) := by decide +kernel
theorem dX9_pairAgainst_42 : decode cX9_pairAgainst 42 = .ok (.iconst 1, 1) := by decide +kernel
theorem dX9_pairAgainst_43 : decode cX9_pairAgainst 43 = .ok (.if_icmp .eq 7, 3) := by decide +kernel
theorem dX9_pairAgainst_46 : decode cX9_pairAgainst 46 = .ok (.iconst (-1), 1) := by decide +kernel
theorem dX9_pairAgainst_47 : decode cX9_pairAgainst 47 = .ok (.goto 21, 3) := by decide +kernel
theorem dX9_pairAgainst_50 : decode cX9_pairAgainst 50 = .ok (.iload_n 1, 1) := by decide +kernel
theorem dX9_pairAgainst_51 : decode cX9_pairAgainst 51 = .ok (.iconst 1, 1) := by decide +kernel
theorem dX9_pairAgainst_52 : decode cX9_pairAgainst 52 = .ok (.if_icmp .ne 11, 3) := by decide +kernel
theorem dX9_pairAgainst_55 : decode cX9_pairAgainst 55 = .ok (.aload_n 0, 1) := by decide +kernel
theorem dX9_pairAgainst_56 : decode cX9_pairAgainst 56 = .ok (.iload_n 3, 1) := by decide +kernel
theorem dX9_pairAgainst_57 : decode cX9_pairAgainst 57 = .ok (.invokestatic 165, 3) := by decide +kernel
theorem dX9_pairAgainst_60 : decode cX9_pairAgainst 60 = .ok (.goto 8, 3) := by decide +kernel
theorem dX9_pairAgainst_63 : decode cX9_pairAgainst 63 = .ok (.aload_n 0, 1) := by decide +kernel
theorem dX9_pairAgainst_64 : decode cX9_pairAgainst 64 = .ok (.iload_n 3, 1) := by decide +kernel
theorem dX9_pairAgainst_65 : decode cX9_pairAgainst 65 = .ok (.invokestatic 168, 3) := by decide +kernel
theorem dX9_pairAgainst_68 : decode cX9_pairAgainst 68 = .ok (.istore 4, 2) := by decide +kernel
theorem dX9_pairAgainst_70 : decode cX9_pairAgainst 70 = .ok (.iload 4, 2) := by decide +kernel
theorem dX9_pairAgainst_72 : decode cX9_pairAgainst 72 = .ok (.iconst (-1), 1) := by decide +kernel
theorem dX9_pairAgainst_73 : decode cX9_pairAgainst 73 = .ok (.if_icmp .eq 12, 3) := by decide +kernel
theorem dX9_pairAgainst_76 : decode cX9_pairAgainst 76 = .ok (.iload_n 3, 1) := by decide +kernel
theorem dX9_pairAgainst_77 : decode cX9_pairAgainst 77 = .ok (.sipush 256, 3) := by decide +kernel
theorem dX9_pairAgainst_80 : decode cX9_pairAgainst 80 = .ok (.imul, 1) := by decide +kernel
theorem dX9_pairAgainst_81 : decode cX9_pairAgainst 81 = .ok (.iload 4, 2) := by decide +kernel
theorem dX9_pairAgainst_83 : decode cX9_pairAgainst 83 = .ok (.iadd, 1) := by decide +kernel
theorem dX9_pairAgainst_84 : decode cX9_pairAgainst 84 = .ok (.ireturn, 1) := by decide +kernel
theorem dX9_pairAgainst_85 : decode cX9_pairAgainst 85 = .ok (.iinc 3 1, 3) := by decide +kernel
theorem dX9_pairAgainst_88 : decode cX9_pairAgainst 88 = .ok (.goto (-61), 3) := by decide +kernel
theorem dX9_pairAgainst_91 : decode cX9_pairAgainst 91 = .ok (.iconst (-1), 1) := by decide +kernel
theorem dX9_pairAgainst_92 : decode cX9_pairAgainst 92 = .ok (.ireturn, 1) := by decide +kernel
theorem yd_X9_pairAgainst : yX9_pairAgainst.cls ≠ "java/lang/invoke/MethodHandle" ∧ yX9_pairAgainst.cls ≠ "java/lang/invoke/VarHandle" ∧ (parseMethodDescriptor yX9_pairAgainst.desc).map (fun d => d.parameters.length) = some 2 := by decide +kernel
abbrev rmX9_pairAgainst : Room := { frames := 2, cells := 0, slots := 0, locals := 42 }
def fX9_pairAgainst_L27_J68 (o : Nat) (z : CS) (l0 : Nat) (l1 : Int32) (l3 : Int32) (s0 : Int32) : Option (Int32 ⊕ (Unit ⊕ Int32)) :=
  if s0 = (-1 : Int32) then
    some (.inl (l3 + (1 : Int32)))
  else
    some (.inr (.inr ((l3 * (256 : Int32)) + s0)))
def fX9_pairAgainst_L27 (o : Nat) (z : CS) (l0 : Nat) (l1 : Int32) (l3 : Int32) : Option (Int32 ⊕ (Unit ⊕ Int32)) :=
  (dT z l0).bind fun t3 =>
  (t3.2.2.2).bind fun ad4 =>
  (lnB z ad4).bind fun v5 =>
  if v5 ≤ l3 then
    some (.inr (.inl ()))
  else
    (dT z l0).bind fun t6 =>
    (t6.2.2.2).bind fun ad7 =>
    (rdB z ad7 l3).bind fun v8 =>
    if v8 = (1 : Int32) then
      if l1 = (1 : Int32) then
        (fX9_fallingFrom o z l0 l3).bind fun q10 =>
        fX9_pairAgainst_L27_J68 o z l0 l1 l3 q10
      else
        (fX9_unlikeOnLevel o z l0 l3).bind fun q9 =>
        fX9_pairAgainst_L27_J68 o z l0 l1 l3 q9
    else
      fX9_pairAgainst_L27_J68 o z l0 l1 l3 (-1 : Int32)
def fX9_pairAgainst (o : Nat) (z : CS) (a1 : Nat) (a2 : Int32) : Option (Int32) :=
  if a2 = 0 then
    some (-1 : Int32)
  else
    (dT z a1).bind fun t2 =>
    (fX8_least o z a1 (2 : Int32)).bind fun q1 =>
    if q1 = (-1 : Int32) then
      (lpN (fun u => fX9_pairAgainst_L27 o z a1 a2 u) bigN (0 : Int32)).bind fun e11 =>
      sel e11 (fun x12 =>
        some (-1 : Int32)
        ) (fun rt => some rt)
    else
      some ((q1 * (256 : Int32)) + q1)
set_option maxHeartbeats 4000000 in
set_option maxRecDepth 100000 in
theorem tX9_pairAgainst_L27 {κ : KK} {p : Program} {l : Launch} {e : Env} {s : State} {m : MethodId} {args : Array Value} {below : List Frame} {meth : Method} {c : Code} (C : Cx κ p s m args meth c cX9_pairAgainst 5 RX9 (some .int)) {o : Nat} {v : Option Value} {B' : Heap → Prop} {z : CS} {l0 : Nat} {l1 : Int32} {l3 : Int32} {y : Int32 ⊕ (Unit ⊕ Int32)} (h : fX9_pairAgainst_L27 o z l0 l1 l3 = some y) (kc : ∀ u, y = .inl u → GC κ p l e s m args below meth c rmX9_pairAgainst 5 o v B' 0 0 z 27 [(0, .ref l0), (1, .int l1), (3, .int u)] []) (kx : ∀ w, y = .inr w → (∀ x, w = .inl x → GC κ p l e s m args below meth c rmX9_pairAgainst 5 o v B' 0 0 z 91 [] []) ∧ (∀ rt, w = .inr rt → v = (some (Value.int rt)) ∧ B' = (CB κ o z))) : GC κ p l e s m args below meth c rmX9_pairAgainst 5 o v B' 0 0 z 27 [(0, .ref l0), (1, .int l1), (3, .int l3)] [] := by
  have J68 : ∀ (l3 : Int32) (s0 : Int32), fX9_pairAgainst_L27_J68 o z l0 l1 l3 s0 = some y → GC κ p l e s m args below meth c rmX9_pairAgainst 5 o v B' 0 0 z 68 [(0, .ref l0), (1, .int l1), (3, .int l3)] [.int s0] := by
    intro l3 s0 h
    unfold fX9_pairAgainst_L27_J68 at h
    refine G_istore (pc' := 70) C dX9_pairAgainst_68 [(4, .int s0), (0, .ref l0), (1, .int l1), (3, .int l3)] (by decide) rfl rfl ?_
    refine G_iload (pc' := 72) C dX9_pairAgainst_70 0 rfl rfl ?_
    refine G_iconst (pc' := 73) (v := (-1 : Int32)) C dX9_pairAgainst_72 (by decide) rfl ?_
    refine G_icmp_eq (tgt := 85) (pc' := 76) C dX9_pairAgainst_73 (by decide) rfl (fun hc => ?_) (fun hc => ?_)
    · replace h := z_ip hc h
      refine G_iinc (pc' := 88) C dX9_pairAgainst_85 3 rfl rfl [(3, .int (l3 + (1 : Int32))), (4, .int s0), (0, .ref l0), (1, .int l1)] (by decide) rfl rfl ?_
      refine G_goto (tgt := 27) C dX9_pairAgainst_88 (by decide) ?_
      exact G_sub (lv' := [(0, .ref l0), (1, .int l1), (3, .int (l3 + (1 : Int32)))]) [2, 3, 0] rfl (kc (l3 + (1 : Int32)) (Option.some.inj h).symm)
    · replace h := z_in hc h
      refine G_iload_n (pc' := 77) C dX9_pairAgainst_76 3 rfl rfl ?_
      refine G_sipush (pc' := 80) (v := (256 : Int32)) C dX9_pairAgainst_77 (by decide) rfl ?_
      refine G_imul (pc' := 81) C dX9_pairAgainst_80 rfl ?_
      refine G_iload (pc' := 83) C dX9_pairAgainst_81 0 rfl rfl ?_
      refine G_iadd (pc' := 84) C dX9_pairAgainst_83 rfl ?_
      obtain ⟨hv, hB⟩ := (kx _ (Option.some.inj h).symm).2 _ rfl
      subst hv
      subst hB
      exact G_iret C dX9_pairAgainst_84 (fun _ h => h)
  unfold fX9_pairAgainst_L27 at h
  refine G_iload_n (pc' := 28) C dX9_pairAgainst_27 2 rfl rfl ?_
  refine G_aload_n (pc' := 29) C dX9_pairAgainst_28 0 rfl rfl ?_
  replace h := ob h
  obtain ⟨t3, ht3, h⟩ := h
  refine G_get (pc' := 32) (k := 3) C fi_X8 dX9_pairAgainst_29 tw_fl_X9_155 rfl (by decide) (CB_T ht3) rfl rfl ?_
  replace h := ob h
  obtain ⟨ad4, had4, h⟩ := h
  rw [had4]
  replace h := ob h
  obtain ⟨v5, hv5, h⟩ := h
  refine P_lenB (pc' := 33) C dX9_pairAgainst_32 hv5 rfl ?_
  refine G_icmp_ge (tgt := 91) (pc' := 36) C dX9_pairAgainst_33 (by decide) rfl (fun hc => ?_) (fun hc => ?_)
  · replace h := z_ip hc h
    exact G_sub (lv' := []) [] rfl ((kx _ (Option.some.inj h).symm).1 _ rfl)
  · replace h := z_in hc h
    refine G_aload_n (pc' := 37) C dX9_pairAgainst_36 0 rfl rfl ?_
    replace h := ob h
    obtain ⟨t6, ht6, h⟩ := h
    refine G_get (pc' := 40) (k := 3) C fi_X8 dX9_pairAgainst_37 tw_fl_X9_155 rfl (by decide) (CB_T ht6) rfl rfl ?_
    refine G_iload_n (pc' := 41) C dX9_pairAgainst_40 2 rfl rfl ?_
    replace h := ob h
    obtain ⟨ad7, had7, h⟩ := h
    rw [had7]
    replace h := ob h
    obtain ⟨v8, hv8, h⟩ := h
    refine P_bald (pc' := 42) C dX9_pairAgainst_41 hv8 rfl ?_
    refine G_iconst (pc' := 43) (v := (1 : Int32)) C dX9_pairAgainst_42 (by decide) rfl ?_
    refine G_icmp_eq (tgt := 50) (pc' := 46) C dX9_pairAgainst_43 (by decide) rfl (fun hc => ?_) (fun hc => ?_)
    · replace h := z_ip hc h
      refine G_iload_n (pc' := 51) C dX9_pairAgainst_50 1 rfl rfl ?_
      refine G_iconst (pc' := 52) (v := (1 : Int32)) C dX9_pairAgainst_51 (by decide) rfl ?_
      refine G_icmp_ne (tgt := 63) (pc' := 55) C dX9_pairAgainst_52 (by decide) rfl (fun hc => ?_) (fun hc => ?_)
      · replace h := z_in hc h
        refine G_aload_n (pc' := 64) C dX9_pairAgainst_63 0 rfl rfl ?_
        refine G_iload_n (pc' := 65) C dX9_pairAgainst_64 2 rfl rfl ?_
        replace h := ob h
        obtain ⟨q9, hq9, h⟩ := h
        refine G_cS0 (pc' := 68) C dX9_pairAgainst_65 (tX9_unlikeOnLevel κ l o z l0 l3 q9 hq9) (wS tw_ml_X9_168 tw_st_X9_unlikeOnLevel tw_co_X9_unlikeOnLevel tw_in_X9) yd_X9_unlikeOnLevel rfl rfl rfl (by decide) rfl (Nat.le_of_ble_eq_true rfl) rfl rfl ?_
        exact G_sub (lv' := [(0, .ref l0), (1, .int l1), (3, .int l3)]) [0, 1, 2] rfl (J68 l3 q9 h)
      · replace h := z_ip hc h
        refine G_aload_n (pc' := 56) C dX9_pairAgainst_55 0 rfl rfl ?_
        refine G_iload_n (pc' := 57) C dX9_pairAgainst_56 2 rfl rfl ?_
        replace h := ob h
        obtain ⟨q10, hq10, h⟩ := h
        refine G_cS0 (pc' := 60) C dX9_pairAgainst_57 (tX9_fallingFrom κ l o z l0 l3 q10 hq10) (wS tw_ml_X9_165 tw_st_X9_fallingFrom tw_co_X9_fallingFrom tw_in_X9) yd_X9_fallingFrom rfl rfl rfl (by decide) rfl (Nat.le_of_ble_eq_true rfl) rfl rfl ?_
        refine G_goto (tgt := 68) C dX9_pairAgainst_60 (by decide) ?_
        exact G_sub (lv' := [(0, .ref l0), (1, .int l1), (3, .int l3)]) [0, 1, 2] rfl (J68 l3 q10 h)
    · replace h := z_in hc h
      refine G_iconst (pc' := 47) (v := (-1 : Int32)) C dX9_pairAgainst_46 (by decide) rfl ?_
      refine G_goto (tgt := 68) C dX9_pairAgainst_47 (by decide) ?_
      exact G_sub (lv' := [(0, .ref l0), (1, .int l1), (3, .int l3)]) [0, 1, 2] rfl (J68 l3 (-1 : Int32) h)
set_option maxHeartbeats 4000000 in
set_option maxRecDepth 100000 in
theorem tX9_pairAgainst (κ : KK) (l : Launch) (o : Nat) (z : CS) (a1 : Nat) (a2 : Int32) (q : Int32) (h : fX9_pairAgainst o z a1 a2 = some q) : MM κ l yX9_pairAgainst cX9_pairAgainst 5 (some .int) rmX9_pairAgainst (CA o) [.ref a1, .int a2] (CB κ o z) (some (Value.int q)) (CB κ o z) := by
  refine MM.of (by decide +kernel) (Nat.le_of_ble_eq_true rfl) ?_
  intro p e s m below meth c C hnm
  unfold fX9_pairAgainst at h
  refine G_sub (lv' := [(0, .ref a1), (1, .int a2)]) [0, 1] rfl ?_
  refine G_iload_n (pc' := 1) C dX9_pairAgainst_0 1 rfl rfl ?_
  refine G_if_ne (tgt := 6) (pc' := 4) C dX9_pairAgainst_1 (by decide) rfl (fun hc => ?_) (fun hc => ?_)
  · replace h := z_in hc h
    refine G_aload_n (pc' := 7) C dX9_pairAgainst_6 0 rfl rfl ?_
    refine G_iconst (pc' := 8) (v := (2 : Int32)) C dX9_pairAgainst_7 (by decide) rfl ?_
    replace h := ob h
    obtain ⟨t2, ht2, h⟩ := h
    replace h := ob h
    obtain ⟨q1, hq1, h⟩ := h
    refine G_cV0 (pc' := 11) C dX9_pairAgainst_8 (tX8_least κ l o z a1 (2 : Int32) q1 hq1) (wV tw_ml_X9_162 tw_im_X8_least tw_se_X8_X8_least tw_in_X8 tw_co_X8_least) yd_X8_least rfl fi_X8 (CB_T ht2) rfl rfl (by decide) rfl (Nat.le_of_ble_eq_true rfl) rfl rfl ?_
    refine G_istore_n (pc' := 12) C dX9_pairAgainst_11 [(2, .int q1), (0, .ref a1), (1, .int a2)] (by decide) rfl rfl ?_
    refine G_iload_n (pc' := 13) C dX9_pairAgainst_12 0 rfl rfl ?_
    refine G_iconst (pc' := 14) (v := (-1 : Int32)) C dX9_pairAgainst_13 (by decide) rfl ?_
    refine G_icmp_eq (tgt := 25) (pc' := 17) C dX9_pairAgainst_14 (by decide) rfl (fun hc => ?_) (fun hc => ?_)
    · replace h := z_ip hc h
      refine G_iconst (pc' := 26) (v := (0 : Int32)) C dX9_pairAgainst_25 (by decide) rfl ?_
      refine G_istore_n (pc' := 27) C dX9_pairAgainst_26 [(3, .int (0 : Int32)), (2, .int q1), (0, .ref a1), (1, .int a2)] (by decide) rfl rfl ?_
      replace h := ob h
      obtain ⟨e11, hle11, h⟩ := h
      refine G_sub (lv' := [(0, .ref a1), (1, .int a2), (3, .int (0 : Int32))]) [2, 3, 0] rfl ?_
      refine lpN_ind (body := fun u => fX9_pairAgainst_L27 o z a1 a2 u) (P := fun u => GC κ p l e s m ([.ref a1, .int a2] : List Value).toArray below meth c rmX9_pairAgainst 5 o (some (Value.int q)) (CB κ o z) 0 0 z 27 [(0, .ref a1), (1, .int a2), (3, .int u)] []) (X := fun w => (∀ x, w = .inl x → GC κ p l e s m ([.ref a1, .int a2] : List Value).toArray below meth c rmX9_pairAgainst 5 o (some (Value.int q)) (CB κ o z) 0 0 z 91 [] []) ∧ (∀ rt, w = .inr rt → (some (Value.int q)) = (some (Value.int rt)) ∧ (CB κ o z) = (CB κ o z))) (fun u y hb kc kx => tX9_pairAgainst_L27 C hb kc kx) _ _ _ hle11 ?_
      refine ⟨fun x12 hxx12 => ?_, fun rt hrt => ?_⟩
      · subst hxx12
        replace h := z_sl h
        refine G_iconst (pc' := 92) (v := (-1 : Int32)) C dX9_pairAgainst_91 (by decide) rfl ?_
        obtain rfl := Option.some.inj h
        exact G_iret C dX9_pairAgainst_92 (fun _ h => h)
      · subst hrt
        replace h := z_sr h
        obtain rfl := Option.some.inj h
        exact ⟨rfl, rfl⟩
    · replace h := z_in hc h
      refine G_iload_n (pc' := 18) C dX9_pairAgainst_17 0 rfl rfl ?_
      refine G_sipush (pc' := 21) (v := (256 : Int32)) C dX9_pairAgainst_18 (by decide) rfl ?_
      refine G_imul (pc' := 22) C dX9_pairAgainst_21 rfl ?_
      refine G_iload_n (pc' := 23) C dX9_pairAgainst_22 0 rfl rfl ?_
      refine G_iadd (pc' := 24) C dX9_pairAgainst_23 rfl ?_
      obtain rfl := Option.some.inj h
      exact G_iret C dX9_pairAgainst_24 (fun _ h => h)
  · replace h := z_ip hc h
    refine G_iconst (pc' := 5) (v := (-1 : Int32)) C dX9_pairAgainst_4 (by decide) rfl ?_
    obtain rfl := Option.some.inj h
    exact G_iret C dX9_pairAgainst_5 (fun _ h => h)
theorem dX9_findingOfTask_0 : decode cX9_findingOfTask 0 = .ok (.iload_n 1, 1) := by decide +kernel
theorem dX9_findingOfTask_1 : decode cX9_findingOfTask 1 = .ok (.invokestatic 131, 3) := by decide +kernel
theorem dX9_findingOfTask_4 : decode cX9_findingOfTask 4 = .ok (.ifCond .ne 6, 3) := by decide +kernel
theorem dX9_findingOfTask_7 : decode cX9_findingOfTask 7 = .ok (.bipush (-2), 2) := by decide +kernel
theorem dX9_findingOfTask_9 : decode cX9_findingOfTask 9 = .ok (.ireturn, 1) := by decide +kernel
theorem dX9_findingOfTask_10 : decode cX9_findingOfTask 10 = .ok (.aload_n 0, 1) := by decide +kernel
theorem dX9_findingOfTask_11 : decode cX9_findingOfTask 11 = .ok (.getfield 17, 3) := by decide +kernel
theorem dX9_findingOfTask_14 : decode cX9_findingOfTask 14 = .ok (.iload_n 1, 1) := by decide +kernel
theorem dX9_findingOfTask_15 : decode cX9_findingOfTask 15 = .ok (.aaload, 1) := by decide +kernel
theorem dX9_findingOfTask_16 : decode cX9_findingOfTask 16 = .ok (.ifnonnull 12, 3) := by decide +kernel
theorem dX9_findingOfTask_19 : decode cX9_findingOfTask 19 = .ok (.aload_n 0, 1) := by decide +kernel
theorem dX9_findingOfTask_20 : decode cX9_findingOfTask 20 = .ok (.bipush (-10), 2) := by decide +kernel
theorem dX9_findingOfTask_22 : decode cX9_findingOfTask 22 = .ok (.invokevirtual 103, 3) := by decide +kernel
theorem dX9_findingOfTask_25 : decode cX9_findingOfTask 25 = .ok (.goto 4, 3) := by decide +kernel
theorem dX9_findingOfTask_28 : decode cX9_findingOfTask 28 = .ok (.iconst 0, 1) := by decide +kernel
theorem dX9_findingOfTask_29 : decode cX9_findingOfTask 29 = .ok (.ireturn, 1) := by decide +kernel
theorem yd_X9_findingOfTask : yX9_findingOfTask.cls = RX9 ∧ yX9_findingOfTask.cls ≠ "java/lang/invoke/MethodHandle" ∧ yX9_findingOfTask.cls ≠ "java/lang/invoke/VarHandle" ∧ (parseMethodDescriptor yX9_findingOfTask.desc).map (fun d => d.parameters.length) = some 1 := by decide +kernel
abbrev rmX9_findingOfTask : Room := { frames := 1, cells := 0, slots := 0, locals := 21 }
def fX9_findingOfTask (o : Nat) (z : CS) (a1 : Int32) : Option (Int32 × CS) :=
  (fX9_isPlace a1).bind fun q1 =>
  if q1 = 0 then
    some ((-2 : Int32), z)
  else
    (aQ 8 (z.2.2.1 1) a1).bind fun v2 =>
    qc v2
      (
        (fX9_counted o z (-10 : Int32)).bind fun q4 =>
        some (q4.1, q4.2)
      )
      (fun ad3 =>
        some ((0 : Int32), z)
      )
set_option maxHeartbeats 4000000 in
set_option maxRecDepth 100000 in
theorem tX9_findingOfTask (κ : KK) (l : Launch) (o : Nat) (z : CS) (a1 : Int32) (q : Int32 × CS) (h : fX9_findingOfTask o z a1 = some q) : MM κ l yX9_findingOfTask cX9_findingOfTask 2 (some .int) rmX9_findingOfTask (CA o) [.ref o, .int a1] (CB κ o z) (some (Value.int q.1)) (CB κ o q.2) := by
  refine MM.of (by decide +kernel) (Nat.le_of_ble_eq_true rfl) ?_
  intro p e s m below meth c C hnm
  unfold fX9_findingOfTask at h
  refine G_sub (lv' := [(0, .ref o), (1, .int a1)]) [0, 1] rfl ?_
  refine G_iload_n (pc' := 1) C dX9_findingOfTask_0 1 rfl rfl ?_
  replace h := ob h
  obtain ⟨q1, hq1, h⟩ := h
  refine G_cS0 (pc' := 4) C dX9_findingOfTask_1 (tX9_isPlace κ l (CA o) (CB κ o z) a1 q1 hq1) (wS tw_ml_X9_131 tw_st_X9_isPlace tw_co_X9_isPlace tw_in_X9) yd_X9_isPlace rfl rfl rfl (by decide) rfl (Nat.le_of_ble_eq_true rfl) rfl rfl ?_
  refine G_if_ne (tgt := 10) (pc' := 7) C dX9_findingOfTask_4 (by decide) rfl (fun hc => ?_) (fun hc => ?_)
  · replace h := z_in hc h
    refine G_aload_n (pc' := 11) C dX9_findingOfTask_10 0 rfl rfl ?_
    refine G_get (pc' := 14) (k := 1) C fi_X9 dX9_findingOfTask_11 tw_fl_X9_17 rfl (by decide) (CB_rd 0 rfl) rfl rfl ?_
    refine G_iload_n (pc' := 15) C dX9_findingOfTask_14 1 rfl rfl ?_
    replace h := ob h
    obtain ⟨v2, hv2, h⟩ := h
    refine G_aald5V (pc' := 16) C dX9_findingOfTask_15 (CB_rd 2 rfl) hv2 rfl ?_
    refine G_ifnonnull (tgt := 28) (pc' := 19) C dX9_findingOfTask_16 (by decide) rfl (fun ad3 hc => ?_) (fun hc => ?_)
    · replace h := z_qs hc h
      subst hc
      refine G_iconst (pc' := 29) (v := (0 : Int32)) C dX9_findingOfTask_28 (by decide) rfl ?_
      refine G_widen (k := rmX9_findingOfTask.cells) (n := rmX9_findingOfTask.slots) (by decide) (by decide) ?_
      obtain rfl := Option.some.inj h
      exact G_iret C dX9_findingOfTask_29 (fun _ h => h)
    · replace h := z_qn hc h
      refine G_aload_n (pc' := 20) C dX9_findingOfTask_19 0 rfl rfl ?_
      refine G_bipush (pc' := 22) (v := (-10 : Int32)) C dX9_findingOfTask_20 (by decide) rfl ?_
      replace h := ob h
      obtain ⟨q4, hq4, h⟩ := h
      refine G_cV0 (pc' := 25) C dX9_findingOfTask_22 (tX9_counted κ l o z (-10 : Int32) q4 hq4) (wV tw_ml_X9_103 tw_im_X9_counted tw_se_X9_X9_counted tw_in_X9 tw_co_X9_counted) yd_X9_counted rfl fi_X9 (CB_rd 0 rfl) rfl rfl (by decide) rfl (Nat.le_of_ble_eq_true rfl) rfl rfl ?_
      refine G_goto (tgt := 29) C dX9_findingOfTask_25 (by decide) ?_
      refine G_widen (k := rmX9_findingOfTask.cells) (n := rmX9_findingOfTask.slots) (by decide) (by decide) ?_
      obtain rfl := Option.some.inj h
      exact G_iret C dX9_findingOfTask_29 (fun _ h => h)
  · replace h := z_ip hc h
    refine G_bipush (pc' := 9) (v := (-2 : Int32)) C dX9_findingOfTask_7 (by decide) rfl ?_
    refine G_widen (k := rmX9_findingOfTask.cells) (n := rmX9_findingOfTask.slots) (by decide) (by decide) ?_
    obtain rfl := Option.some.inj h
    exact G_iret C dX9_findingOfTask_9 (fun _ h => h)
theorem dX9_kind_0 : decode cX9_kind 0 = .ok (.iload_n 2, 1) := by decide +kernel
theorem dX9_kind_1 : decode cX9_kind 1 = .ok (.ifCond .lt 8, 3) := by decide +kernel
theorem dX9_kind_4 : decode cX9_kind 4 = .ok (.iload_n 2, 1) := by decide +kernel
theorem dX9_kind_5 : decode cX9_kind 5 = .ok (.iconst 2, 1) := by decide +kernel
theorem dX9_kind_6 : decode cX9_kind 6 = .ok (.if_icmp .le 8, 3) := by decide +kernel
theorem dX9_kind_9 : decode cX9_kind 9 = .ok (.bipush (-2), 2) := by decide +kernel
theorem dX9_kind_11 : decode cX9_kind 11 = .ok (.goto 8, 3) := by decide +kernel
theorem dX9_kind_14 : decode cX9_kind 14 = .ok (.aload_n 0, 1) := by decide +kernel
theorem dX9_kind_15 : decode cX9_kind 15 = .ok (.iload_n 1, 1) := by decide +kernel
theorem dX9_kind_16 : decode cX9_kind 16 = .ok (.invokevirtual 145, 3) := by decide +kernel
theorem dX9_kind_19 : decode cX9_kind 19 = .ok (.istore_n 3, 1) := by decide +kernel
theorem dX9_kind_20 : decode cX9_kind 20 = .ok (.iload_n 3, 1) := by decide +kernel
theorem dX9_kind_21 : decode cX9_kind 21 = .ok (.ifCond .eq 5, 3) := by decide +kernel
theorem dX9_kind_24 : decode cX9_kind 24 = .ok (.iload_n 3, 1) := by decide +kernel
theorem dX9_kind_25 : decode cX9_kind 25 = .ok (.ireturn, 1) := by decide +kernel
theorem dX9_kind_26 : decode cX9_kind 26 = .ok (.aload_n 0, 1) := by decide +kernel
theorem dX9_kind_27 : decode cX9_kind 27 = .ok (.getfield 17, 3) := by decide +kernel
theorem dX9_kind_30 : decode cX9_kind 30 = .ok (.iload_n 1, 1) := by decide +kernel
theorem dX9_kind_31 : decode cX9_kind 31 = .ok (.aaload, 1) := by decide +kernel
theorem dX9_kind_32 : decode cX9_kind 32 = .ok (.astore 4, 2) := by decide +kernel
theorem dX9_kind_34 : decode cX9_kind 34 = .ok (.aload 4, 2) := by decide +kernel
theorem dX9_kind_36 : decode cX9_kind 36 = .ok (.iload_n 2, 1) := by decide +kernel
theorem dX9_kind_37 : decode cX9_kind 37 = .ok (.invokestatic 148, 3) := by decide +kernel
theorem dX9_kind_40 : decode cX9_kind 40 = .ok (.istore 5, 2) := by decide +kernel
theorem dX9_kind_42 : decode cX9_kind 42 = .ok (.iload 5, 2) := by decide +kernel
theorem dX9_kind_44 : decode cX9_kind 44 = .ok (.iconst (-1), 1) := by decide +kernel
theorem dX9_kind_45 : decode cX9_kind 45 = .ok (.if_icmp .eq 12, 3) := by decide +kernel
theorem dX9_kind_48 : decode cX9_kind 48 = .ok (.aload_n 0, 1) := by decide +kernel
theorem dX9_kind_49 : decode cX9_kind 49 = .ok (.iload 5, 2) := by decide +kernel
theorem dX9_kind_51 : decode cX9_kind 51 = .ok (.putfield 90, 3) := by decide +kernel
theorem dX9_kind_54 : decode cX9_kind 54 = .ok (.bipush (-3), 2) := by decide +kernel
theorem dX9_kind_56 : decode cX9_kind 56 = .ok (.ireturn, 1) := by decide +kernel
theorem dX9_kind_57 : decode cX9_kind 57 = .ok (.aload_n 0, 1) := by decide +kernel
theorem dX9_kind_58 : decode cX9_kind 58 = .ok (.getfield 17, 3) := by decide +kernel
theorem dX9_kind_61 : decode cX9_kind 61 = .ok (.iload_n 1, 1) := by decide +kernel
theorem dX9_kind_62 : decode cX9_kind 62 = .ok (.iload_n 2, 1) := by decide +kernel
theorem dX9_kind_63 : decode cX9_kind 63 = .ok (.aload 4, 2) := by decide +kernel
theorem dX9_kind_65 : decode cX9_kind 65 = .ok (.getfield 152, 3) := by decide +kernel
theorem dX9_kind_68 : decode cX9_kind 68 = .ok (.aload 4, 2) := by decide +kernel
theorem dX9_kind_70 : decode cX9_kind 70 = .ok (.getfield 155, 3) := by decide +kernel
theorem dX9_kind_73 : decode cX9_kind 73 = .ok (.invokestatic 138, 3) := by decide +kernel
theorem dX9_kind_76 : decode cX9_kind 76 = .ok (.aastore, 1) := by decide +kernel
theorem dX9_kind_77 : decode cX9_kind 77 = .ok (.aload 4, 2) := by decide +kernel
theorem dX9_kind_79 : decode cX9_kind 79 = .ok (.getfield 159, 3) := by decide +kernel
theorem dX9_kind_82 : decode cX9_kind 82 = .ok (.ireturn, 1) := by decide +kernel
theorem yd_X9_kind : yX9_kind.cls = RX9 ∧ yX9_kind.cls ≠ "java/lang/invoke/MethodHandle" ∧ yX9_kind.cls ≠ "java/lang/invoke/VarHandle" ∧ (parseMethodDescriptor yX9_kind.desc).map (fun d => d.parameters.length) = some 2 := by decide +kernel
abbrev rmX9_kind : Room := { frames := 3, cells := 1, slots := 4, locals := 70 }
def fX9_kind_J19 (o : Nat) (z : CS) (l1 : Int32) (l2 : Int32) (s0 : Int32) : Option (Int32 × CS) :=
  if s0 = 0 then
    (aQ 8 (z.2.2.1 1) l1).bind fun v1 =>
    (v1).bind fun ad2 =>
    (fX9_pairAgainst o z ad2 l2).bind fun q3 =>
    if q3 = (-1 : Int32) then
      (dT z ad2).bind fun t4 =>
      (dT z ad2).bind fun t5 =>
      (t5.2.2.2).bind fun ad6 =>
      (fX9_plainTask o z l2 t4.2.1 ad6).bind fun q7 =>
      (stQT q7.2 1 l1 (some q7.1)).bind fun z8 =>
      (dT z8 ad2).bind fun t9 =>
      some (t9.1, z8)
    else
      some ((-3 : Int32), (cI z 2 q3))
  else
    some (s0, z)
def fX9_kind_J9 (o : Nat) (z : CS) (l1 : Int32) (l2 : Int32) : Option (Int32 × CS) :=
  fX9_kind_J19 o z l1 l2 (-2 : Int32)
def fX9_kind (o : Nat) (z : CS) (a1 : Int32) (a2 : Int32) : Option (Int32 × CS) :=
  if a2 < 0 then
    fX9_kind_J9 o z a1 a2
  else
    if a2 ≤ (2 : Int32) then
      (fX9_findingOfTask o z a1).bind fun q10 =>
      fX9_kind_J19 o q10.2 a1 a2 q10.1
    else
      fX9_kind_J9 o z a1 a2
set_option maxHeartbeats 4000000 in
set_option maxRecDepth 100000 in
theorem tX9_kind (κ : KK) (l : Launch) (o : Nat) (z : CS) (a1 : Int32) (a2 : Int32) (q : Int32 × CS) (h : fX9_kind o z a1 a2 = some q) : MM κ l yX9_kind cX9_kind 6 (some .int) rmX9_kind (CA o) [.ref o, .int a1, .int a2] (CB κ o z) (some (Value.int q.1)) (CB κ o q.2) := by
  refine MM.of (by decide +kernel) (Nat.le_of_ble_eq_true rfl) ?_
  intro p e s m below meth c C hnm
  have J19 : ∀ (z : CS) (l1 : Int32) (l2 : Int32) (s0 : Int32), fX9_kind_J19 o z l1 l2 s0 = some q → GC κ p l e s m ([.ref o, .int a1, .int a2] : List Value).toArray below meth c rmX9_kind 6 o (some (Value.int q.1)) (CB κ o q.2) 0 0 z 19 [(0, .ref o), (1, .int l1), (2, .int l2)] [.int s0] := by
    intro z l1 l2 s0 h
    unfold fX9_kind_J19 at h
    refine G_istore_n (pc' := 20) C dX9_kind_19 [(3, .int s0), (0, .ref o), (1, .int l1), (2, .int l2)] (by decide) rfl rfl ?_
    refine G_iload_n (pc' := 21) C dX9_kind_20 0 rfl rfl ?_
    refine G_if_eq (tgt := 26) (pc' := 24) C dX9_kind_21 (by decide) rfl (fun hc => ?_) (fun hc => ?_)
    · replace h := z_ip hc h
      refine G_aload_n (pc' := 27) C dX9_kind_26 1 rfl rfl ?_
      refine G_get (pc' := 30) (k := 1) C fi_X9 dX9_kind_27 tw_fl_X9_17 rfl (by decide) (CB_rd 0 rfl) rfl rfl ?_
      refine G_iload_n (pc' := 31) C dX9_kind_30 2 rfl rfl ?_
      replace h := ob h
      obtain ⟨v1, hv1, h⟩ := h
      refine G_aald5V (pc' := 32) C dX9_kind_31 (CB_rd 2 rfl) hv1 rfl ?_
      refine G_qstore (pc' := 34) C dX9_kind_32 [(4, va_rf v1), (3, .int s0), (0, .ref o), (1, .int l1), (2, .int l2)] (by decide) rfl rfl ?_
      refine G_qload (pc' := 36) C dX9_kind_34 0 rfl rfl ?_
      refine G_iload_n (pc' := 37) C dX9_kind_36 4 rfl rfl ?_
      replace h := ob h
      obtain ⟨ad2, had2, h⟩ := h
      subst had2
      replace h := ob h
      obtain ⟨q3, hq3, h⟩ := h
      refine G_cS0 (pc' := 40) C dX9_kind_37 (tX9_pairAgainst κ l o z ad2 l2 q3 hq3) (wS tw_ml_X9_148 tw_st_X9_pairAgainst tw_co_X9_pairAgainst tw_in_X9) yd_X9_pairAgainst rfl rfl rfl (by decide) rfl (Nat.le_of_ble_eq_true rfl) rfl rfl ?_
      refine G_istore (pc' := 42) C dX9_kind_40 [(5, .int q3), (4, .ref ad2), (3, .int s0), (0, .ref o), (1, .int l1), (2, .int l2)] (by decide) rfl rfl ?_
      refine G_iload (pc' := 44) C dX9_kind_42 0 rfl rfl ?_
      refine G_iconst (pc' := 45) (v := (-1 : Int32)) C dX9_kind_44 (by decide) rfl ?_
      refine G_icmp_eq (tgt := 57) (pc' := 48) C dX9_kind_45 (by decide) rfl (fun hc => ?_) (fun hc => ?_)
      · replace h := z_ip hc h
        refine G_aload_n (pc' := 58) C dX9_kind_57 3 rfl rfl ?_
        refine G_get (pc' := 61) (k := 1) C fi_X9 dX9_kind_58 tw_fl_X9_17 rfl (by decide) (CB_rd 0 rfl) rfl rfl ?_
        refine G_iload_n (pc' := 62) C dX9_kind_61 4 rfl rfl ?_
        refine G_iload_n (pc' := 63) C dX9_kind_62 5 rfl rfl ?_
        refine G_aload (pc' := 65) C dX9_kind_63 1 rfl rfl ?_
        replace h := ob h
        obtain ⟨t4, ht4, h⟩ := h
        refine G_get (pc' := 68) (k := 1) C fi_X8 dX9_kind_65 tw_fl_X9_152 rfl (by decide) (CB_T ht4) rfl rfl ?_
        refine G_aload (pc' := 70) C dX9_kind_68 1 rfl rfl ?_
        replace h := ob h
        obtain ⟨t5, ht5, h⟩ := h
        refine G_get (pc' := 73) (k := 3) C fi_X8 dX9_kind_70 tw_fl_X9_155 rfl (by decide) (CB_T ht5) rfl rfl ?_
        replace h := ob h
        obtain ⟨ad6, had6, h⟩ := h
        rw [had6]
        replace h := ob h
        obtain ⟨q7, hq7, h⟩ := h
        refine G_cS (pc' := 76) C dX9_kind_73 (tX9_plainTask κ l o z l2 t4.2.1 ad6 q7 hq7) (wS tw_ml_X9_138 tw_st_X9_plainTask tw_co_X9_plainTask tw_in_X9) yd_X9_plainTask rfl (by decide) rfl (Nat.le_of_ble_eq_true rfl) rfl rfl ?_
        replace h := ob h
        obtain ⟨z8, hz8, h⟩ := h
        refine C_q_places (pc' := 77) (x := (some q7.1)) C dX9_kind_76 hz8 rfl ?_
        refine G_aload (pc' := 79) C dX9_kind_77 1 rfl rfl ?_
        replace h := ob h
        obtain ⟨t9, ht9, h⟩ := h
        refine G_get (pc' := 82) (k := 0) C fi_X8 dX9_kind_79 tw_fl_X9_159 rfl (by decide) (CB_T ht9) rfl rfl ?_
        refine G_widen (k := rmX9_kind.cells) (n := rmX9_kind.slots) (by decide) (by decide) ?_
        obtain rfl := Option.some.inj h
        exact G_iret C dX9_kind_82 (fun _ h => h)
      · replace h := z_in hc h
        refine G_aload_n (pc' := 49) C dX9_kind_48 3 rfl rfl ?_
        refine G_iload (pc' := 51) C dX9_kind_49 0 rfl rfl ?_
        refine G_put (pc' := 54) (k := 14) C fi_X9 dX9_kind_51 tw_fl_X9_90 rfl (by decide) rfl rfl rfl (Nat.le_of_ble_eq_true rfl) (CB_rd 0 rfl) (CB_wr (cI z 2 q3) 0 (by decide) rfl rfl) rfl ?_
        refine G_bipush (pc' := 56) (v := (-3 : Int32)) C dX9_kind_54 (by decide) rfl ?_
        refine G_widen (k := rmX9_kind.cells) (n := rmX9_kind.slots) (by decide) (by decide) ?_
        obtain rfl := Option.some.inj h
        exact G_iret C dX9_kind_56 (fun _ h => h)
    · replace h := z_in hc h
      refine G_iload_n (pc' := 25) C dX9_kind_24 0 rfl rfl ?_
      refine G_widen (k := rmX9_kind.cells) (n := rmX9_kind.slots) (by decide) (by decide) ?_
      obtain rfl := Option.some.inj h
      exact G_iret C dX9_kind_25 (fun _ h => h)
  have J9 : ∀ (z : CS) (l1 : Int32) (l2 : Int32), fX9_kind_J9 o z l1 l2 = some q → GC κ p l e s m ([.ref o, .int a1, .int a2] : List Value).toArray below meth c rmX9_kind 6 o (some (Value.int q.1)) (CB κ o q.2) 0 0 z 9 [(0, .ref o), (1, .int l1), (2, .int l2)] [] := by
    intro z l1 l2 h
    unfold fX9_kind_J9 at h
    refine G_bipush (pc' := 11) (v := (-2 : Int32)) C dX9_kind_9 (by decide) rfl ?_
    refine G_goto (tgt := 19) C dX9_kind_11 (by decide) ?_
    exact G_sub (lv' := [(0, .ref o), (1, .int l1), (2, .int l2)]) [0, 1, 2] rfl (J19 z l1 l2 (-2 : Int32) h)
  unfold fX9_kind at h
  refine G_sub (lv' := [(0, .ref o), (1, .int a1), (2, .int a2)]) [0, 1, 2] rfl ?_
  refine G_iload_n (pc' := 1) C dX9_kind_0 2 rfl rfl ?_
  refine G_if_lt (tgt := 9) (pc' := 4) C dX9_kind_1 (by decide) rfl (fun hc => ?_) (fun hc => ?_)
  · replace h := z_ip hc h
    exact G_sub (lv' := [(0, .ref o), (1, .int a1), (2, .int a2)]) [0, 1, 2] rfl (J9 z a1 a2 h)
  · replace h := z_in hc h
    refine G_iload_n (pc' := 5) C dX9_kind_4 2 rfl rfl ?_
    refine G_iconst (pc' := 6) (v := (2 : Int32)) C dX9_kind_5 (by decide) rfl ?_
    refine G_icmp_le (tgt := 14) (pc' := 9) C dX9_kind_6 (by decide) rfl (fun hc => ?_) (fun hc => ?_)
    · replace h := z_ip hc h
      refine G_aload_n (pc' := 15) C dX9_kind_14 0 rfl rfl ?_
      refine G_iload_n (pc' := 16) C dX9_kind_15 1 rfl rfl ?_
      replace h := ob h
      obtain ⟨q10, hq10, h⟩ := h
      refine G_cV0 (pc' := 19) C dX9_kind_16 (tX9_findingOfTask κ l o z a1 q10 hq10) (wV tw_ml_X9_145 tw_im_X9_findingOfTask tw_se_X9_X9_findingOfTask tw_in_X9 tw_co_X9_findingOfTask) yd_X9_findingOfTask rfl fi_X9 (CB_rd 0 rfl) rfl rfl (by decide) rfl (Nat.le_of_ble_eq_true rfl) rfl rfl ?_
      exact G_sub (lv' := [(0, .ref o), (1, .int a1), (2, .int a2)]) [0, 1, 2] rfl (J19 q10.2 a1 a2 q10.1 h)
    · replace h := z_in hc h
      exact G_sub (lv' := [(0, .ref o), (1, .int a1), (2, .int a2)]) [0, 1, 2] rfl (J9 z a1 a2 h)
theorem dX9_shown_0 : decode cX9_shown 0 = .ok (.iload_n 1, 1) := by decide +kernel
theorem dX9_shown_1 : decode cX9_shown 1 = .ok (.ifCond .lt 8, 3) := by decide +kernel
theorem dX9_shown_4 : decode cX9_shown 4 = .ok (.iload_n 1, 1) := by decide +kernel
theorem dX9_shown_5 : decode cX9_shown 5 = .ok (.iconst 1, 1) := by decide +kernel
theorem dX9_shown_6 : decode cX9_shown 6 = .ok (.if_icmp .le 6, 3) := by decide +kernel
theorem dX9_shown_9 : decode cX9_shown 9 = .ok (.bipush (-2), 2) := by decide +kernel
theorem dX9_shown_11 : decode cX9_shown 11 = .ok (.ireturn, 1) := by decide +kernel
theorem dX9_shown_12 : decode cX9_shown 12 = .ok (.aload_n 0, 1) := by decide +kernel
theorem dX9_shown_13 : decode cX9_shown 13 = .ok (.getfield 90, 3) := by decide +kernel
theorem dX9_shown_16 : decode cX9_shown 16 = .ok (.iconst (-1), 1) := by decide +kernel
theorem dX9_shown_17 : decode cX9_shown 17 = .ok (.if_icmp .ne 5, 3) := by decide +kernel
theorem dX9_shown_20 : decode cX9_shown 20 = .ok (.iconst (-1), 1) := by decide +kernel
theorem dX9_shown_21 : decode cX9_shown 21 = .ok (.ireturn, 1) := by decide +kernel
theorem dX9_shown_22 : decode cX9_shown 22 = .ok (.iload_n 1, 1) := by decide +kernel
theorem dX9_shown_23 : decode cX9_shown 23 = .ok (.ifCond .ne 14, 3) := by decide +kernel
theorem dX9_shown_26 : decode cX9_shown 26 = .ok (.aload_n 0, 1) := by decide +kernel
theorem dX9_shown_27 : decode cX9_shown 27 = .ok (.getfield 90, 3) := by decide +kernel
theorem dX9_shown_30 : decode cX9_shown 30 = .ok (.sipush 256, 3) := by decide +kernel
theorem dX9_shown_33 : decode cX9_shown 33 = .ok (.idiv, 1) := by decide +kernel
theorem dX9_shown_34 : decode cX9_shown 34 = .ok (.goto 11, 3) := by decide +kernel
theorem dX9_shown_37 : decode cX9_shown 37 = .ok (.aload_n 0, 1) := by decide +kernel
theorem dX9_shown_38 : decode cX9_shown 38 = .ok (.getfield 90, 3) := by decide +kernel
theorem dX9_shown_41 : decode cX9_shown 41 = .ok (.sipush 256, 3) := by decide +kernel
theorem dX9_shown_44 : decode cX9_shown 44 = .ok (.irem, 1) := by decide +kernel
theorem dX9_shown_45 : decode cX9_shown 45 = .ok (.ireturn, 1) := by decide +kernel
theorem yd_X9_shown : yX9_shown.cls = RX9 ∧ yX9_shown.cls ≠ "java/lang/invoke/MethodHandle" ∧ yX9_shown.cls ≠ "java/lang/invoke/VarHandle" ∧ (parseMethodDescriptor yX9_shown.desc).map (fun d => d.parameters.length) = some 1 := by decide +kernel
abbrev rmX9_shown : Room := { frames := 0, cells := 0, slots := 0, locals := 0 }
def fX9_shown_J9 (o : Nat) (z : CS) : Option (Int32) :=
  some (-2 : Int32)
def fX9_shown (o : Nat) (z : CS) (a1 : Int32) : Option (Int32) :=
  if a1 < 0 then
    fX9_shown_J9 o z
  else
    if a1 ≤ (1 : Int32) then
      if (z.1 2) = (-1 : Int32) then
        some (-1 : Int32)
      else
        if a1 = 0 then
          some ((z.1 2) / (256 : Int32))
        else
          some ((z.1 2) - (z.1 2) / (256 : Int32) * (256 : Int32))
    else
      fX9_shown_J9 o z
set_option maxHeartbeats 4000000 in
set_option maxRecDepth 100000 in
theorem tX9_shown (κ : KK) (l : Launch) (o : Nat) (z : CS) (a1 : Int32) (q : Int32) (h : fX9_shown o z a1 = some q) : MM κ l yX9_shown cX9_shown 2 (some .int) rmX9_shown (CA o) [.ref o, .int a1] (CB κ o z) (some (Value.int q)) (CB κ o z) := by
  refine MM.of (by decide +kernel) (Nat.le_of_ble_eq_true rfl) ?_
  intro p e s m below meth c C hnm
  have J9 : fX9_shown_J9 o z = some q → GC κ p l e s m ([.ref o, .int a1] : List Value).toArray below meth c rmX9_shown 2 o (some (Value.int q)) (CB κ o z) 0 0 z 9 [] [] := by
    intro  h
    unfold fX9_shown_J9 at h
    refine G_bipush (pc' := 11) (v := (-2 : Int32)) C dX9_shown_9 (by decide) rfl ?_
    obtain rfl := Option.some.inj h
    exact G_iret C dX9_shown_11 (fun _ h => h)
  unfold fX9_shown at h
  refine G_sub (lv' := [(0, .ref o), (1, .int a1)]) [0, 1] rfl ?_
  refine G_iload_n (pc' := 1) C dX9_shown_0 1 rfl rfl ?_
  refine G_if_lt (tgt := 9) (pc' := 4) C dX9_shown_1 (by decide) rfl (fun hc => ?_) (fun hc => ?_)
  · replace h := z_ip hc h
    exact G_sub (lv' := []) [] rfl (J9  h)
  · replace h := z_in hc h
    refine G_iload_n (pc' := 5) C dX9_shown_4 1 rfl rfl ?_
    refine G_iconst (pc' := 6) (v := (1 : Int32)) C dX9_shown_5 (by decide) rfl ?_
    refine G_icmp_le (tgt := 12) (pc' := 9) C dX9_shown_6 (by decide) rfl (fun hc => ?_) (fun hc => ?_)
    · replace h := z_ip hc h
      refine G_aload_n (pc' := 13) C dX9_shown_12 0 rfl rfl ?_
      refine G_get (pc' := 16) (k := 14) C fi_X9 dX9_shown_13 tw_fl_X9_90 rfl (by decide) (CB_rd 0 rfl) rfl rfl ?_
      refine G_iconst (pc' := 17) (v := (-1 : Int32)) C dX9_shown_16 (by decide) rfl ?_
      refine G_icmp_ne (tgt := 22) (pc' := 20) C dX9_shown_17 (by decide) rfl (fun hc => ?_) (fun hc => ?_)
      · replace h := z_in hc h
        refine G_iload_n (pc' := 23) C dX9_shown_22 1 rfl rfl ?_
        refine G_if_ne (tgt := 37) (pc' := 26) C dX9_shown_23 (by decide) rfl (fun hc => ?_) (fun hc => ?_)
        · replace h := z_in hc h
          refine G_aload_n (pc' := 38) C dX9_shown_37 0 rfl rfl ?_
          refine G_get (pc' := 41) (k := 14) C fi_X9 dX9_shown_38 tw_fl_X9_90 rfl (by decide) (CB_rd 0 rfl) rfl rfl ?_
          refine G_sipush (pc' := 44) (v := (256 : Int32)) C dX9_shown_41 (by decide) rfl ?_
          refine G_irem (pc' := 45) C dX9_shown_44 (by decide) rfl ?_
          obtain rfl := Option.some.inj h
          exact G_iret C dX9_shown_45 (fun _ h => h)
        · replace h := z_ip hc h
          refine G_aload_n (pc' := 27) C dX9_shown_26 0 rfl rfl ?_
          refine G_get (pc' := 30) (k := 14) C fi_X9 dX9_shown_27 tw_fl_X9_90 rfl (by decide) (CB_rd 0 rfl) rfl rfl ?_
          refine G_sipush (pc' := 33) (v := (256 : Int32)) C dX9_shown_30 (by decide) rfl ?_
          refine G_idiv (pc' := 34) C dX9_shown_33 (by decide) rfl ?_
          refine G_goto (tgt := 45) C dX9_shown_34 (by decide) ?_
          obtain rfl := Option.some.inj h
          exact G_iret C dX9_shown_45 (fun _ h => h)
      · replace h := z_ip hc h
        refine G_iconst (pc' := 21) (v := (-1 : Int32)) C dX9_shown_20 (by decide) rfl ?_
        obtain rfl := Option.some.inj h
        exact G_iret C dX9_shown_21 (fun _ h => h)
    · replace h := z_in hc h
      exact G_sub (lv' := []) [] rfl (J9  h)
theorem dX8_hasInput_0 : decode cX8_hasInput 0 = .ok (.iload_n 1, 1) := by decide +kernel
theorem dX8_hasInput_1 : decode cX8_hasInput 1 = .ok (.ifCond .lt 16, 3) := by decide +kernel
theorem dX8_hasInput_4 : decode cX8_hasInput 4 = .ok (.iload_n 1, 1) := by decide +kernel
theorem dX8_hasInput_5 : decode cX8_hasInput 5 = .ok (.aload_n 0, 1) := by decide +kernel
theorem dX8_hasInput_6 : decode cX8_hasInput 6 = .ok (.getfield 21, 3) := by decide +kernel
theorem dX8_hasInput_9 : decode cX8_hasInput 9 = .ok (.arraylength, 1) := by decide +kernel
theorem dX8_hasInput_10 : decode cX8_hasInput 10 = .ok (.if_icmp .ge 7, 3) := by decide +kernel
theorem dX8_hasInput_13 : decode cX8_hasInput 13 = .ok (.iconst 1, 1) := by decide +kernel
theorem dX8_hasInput_14 : decode cX8_hasInput 14 = .ok (.goto 4, 3) := by decide +kernel
theorem dX8_hasInput_17 : decode cX8_hasInput 17 = .ok (.iconst 0, 1) := by decide +kernel
theorem dX8_hasInput_18 : decode cX8_hasInput 18 = .ok (.ireturn, 1) := by decide +kernel
theorem yd_X8_hasInput : yX8_hasInput.cls = RX8 ∧ yX8_hasInput.cls ≠ "java/lang/invoke/MethodHandle" ∧ yX8_hasInput.cls ≠ "java/lang/invoke/VarHandle" ∧ (parseMethodDescriptor yX8_hasInput.desc).map (fun d => d.parameters.length) = some 1 := by decide +kernel
abbrev rmX8_hasInput : Room := { frames := 0, cells := 0, slots := 0, locals := 0 }
def fX8_hasInput_J17 (o : Nat) (z : CS) : Option (Int32) :=
  some (0 : Int32)
def fX8_hasInput (o : Nat) (z : CS) (a0 : Nat) (a1 : Int32) : Option (Int32) :=
  if a1 < 0 then
    fX8_hasInput_J17 o z
  else
    (dT z a0).bind fun t1 =>
    (t1.2.2.2).bind fun ad2 =>
    (lnB z ad2).bind fun v3 =>
    if v3 ≤ a1 then
      fX8_hasInput_J17 o z
    else
      some (1 : Int32)
set_option maxHeartbeats 4000000 in
set_option maxRecDepth 100000 in
theorem tX8_hasInput (κ : KK) (l : Launch) (o : Nat) (z : CS) (a0 : Nat) (a1 : Int32) (q : Int32) (h : fX8_hasInput o z a0 a1 = some q) : MM κ l yX8_hasInput cX8_hasInput 2 (some .boolean) rmX8_hasInput (CA o) [.ref a0, .int a1] (CB κ o z) (some (Value.int q)) (CB κ o z) := by
  refine MM.of (by decide +kernel) (Nat.le_of_ble_eq_true rfl) ?_
  intro p e s m below meth c C hnm
  have J17 : fX8_hasInput_J17 o z = some q → GC κ p l e s m ([.ref a0, .int a1] : List Value).toArray below meth c rmX8_hasInput 2 o (some (Value.int q)) (CB κ o z) 0 0 z 17 [] [] := by
    intro  h
    unfold fX8_hasInput_J17 at h
    refine G_iconst (pc' := 18) (v := (0 : Int32)) C dX8_hasInput_17 (by decide) rfl ?_
    obtain rfl := Option.some.inj h
    exact G_zret (v := (0 : Int32)) C rfl dX8_hasInput_18 (fun _ h => h)
  unfold fX8_hasInput at h
  refine G_sub (lv' := [(0, .ref a0), (1, .int a1)]) [0, 1] rfl ?_
  refine G_iload_n (pc' := 1) C dX8_hasInput_0 1 rfl rfl ?_
  refine G_if_lt (tgt := 17) (pc' := 4) C dX8_hasInput_1 (by decide) rfl (fun hc => ?_) (fun hc => ?_)
  · replace h := z_ip hc h
    exact G_sub (lv' := []) [] rfl (J17  h)
  · replace h := z_in hc h
    refine G_iload_n (pc' := 5) C dX8_hasInput_4 1 rfl rfl ?_
    refine G_aload_n (pc' := 6) C dX8_hasInput_5 0 rfl rfl ?_
    replace h := ob h
    obtain ⟨t1, ht1, h⟩ := h
    refine G_get (pc' := 9) (k := 3) C fi_X8 dX8_hasInput_6 tw_fl_X8_21 rfl (by decide) (CB_T ht1) rfl rfl ?_
    replace h := ob h
    obtain ⟨ad2, had2, h⟩ := h
    rw [had2]
    replace h := ob h
    obtain ⟨v3, hv3, h⟩ := h
    refine P_lenB (pc' := 10) C dX8_hasInput_9 hv3 rfl ?_
    refine G_icmp_ge (tgt := 17) (pc' := 13) C dX8_hasInput_10 (by decide) rfl (fun hc => ?_) (fun hc => ?_)
    · replace h := z_ip hc h
      exact G_sub (lv' := []) [] rfl (J17  h)
    · replace h := z_in hc h
      refine G_iconst (pc' := 14) (v := (1 : Int32)) C dX8_hasInput_13 (by decide) rfl ?_
      refine G_goto (tgt := 18) C dX8_hasInput_14 (by decide) ?_
      obtain rfl := Option.some.inj h
      exact G_zret (v := (1 : Int32)) C rfl dX8_hasInput_18 (fun _ h => h)
theorem dX9_say_0 : decode cX9_say 0 = .ok (.aload_n 0, 1) := by decide +kernel
theorem dX9_say_1 : decode cX9_say 1 = .ok (.iload_n 1, 1) := by decide +kernel
theorem dX9_say_2 : decode cX9_say 2 = .ok (.invokevirtual 145, 3) := by decide +kernel
theorem dX9_say_5 : decode cX9_say 5 = .ok (.istore_n 3, 1) := by decide +kernel
theorem dX9_say_6 : decode cX9_say 6 = .ok (.iload_n 3, 1) := by decide +kernel
theorem dX9_say_7 : decode cX9_say 7 = .ok (.ifCond .eq 5, 3) := by decide +kernel
theorem dX9_say_10 : decode cX9_say 10 = .ok (.iload_n 3, 1) := by decide +kernel
theorem dX9_say_11 : decode cX9_say 11 = .ok (.ireturn, 1) := by decide +kernel
theorem dX9_say_12 : decode cX9_say 12 = .ok (.aload_n 0, 1) := by decide +kernel
theorem dX9_say_13 : decode cX9_say 13 = .ok (.getfield 17, 3) := by decide +kernel
theorem dX9_say_16 : decode cX9_say 16 = .ok (.iload_n 1, 1) := by decide +kernel
theorem dX9_say_17 : decode cX9_say 17 = .ok (.aaload, 1) := by decide +kernel
theorem dX9_say_18 : decode cX9_say 18 = .ok (.astore 4, 2) := by decide +kernel
theorem dX9_say_20 : decode cX9_say 20 = .ok (.aload 4, 2) := by decide +kernel
theorem dX9_say_22 : decode cX9_say 22 = .ok (.iload_n 2, 1) := by decide +kernel
theorem dX9_say_23 : decode cX9_say 23 = .ok (.invokevirtual 176, 3) := by decide +kernel
theorem dX9_say_26 : decode cX9_say 26 = .ok (.ifCond .eq 13, 3) := by decide +kernel
theorem dX9_say_29 : decode cX9_say 29 = .ok (.aload 4, 2) := by decide +kernel
theorem dX9_say_31 : decode cX9_say 31 = .ok (.getfield 155, 3) := by decide +kernel
theorem dX9_say_34 : decode cX9_say 34 = .ok (.iload_n 2, 1) := by decide +kernel
theorem dX9_say_35 : decode cX9_say 35 = .ok (.baload, 1) := by decide +kernel
theorem dX9_say_36 : decode cX9_say 36 = .ok (.goto 9, 3) := by decide +kernel
theorem dX9_say_39 : decode cX9_say 39 = .ok (.aload_n 0, 1) := by decide +kernel
theorem dX9_say_40 : decode cX9_say 40 = .ok (.bipush (-11), 2) := by decide +kernel
theorem dX9_say_42 : decode cX9_say 42 = .ok (.invokevirtual 103, 3) := by decide +kernel
theorem dX9_say_45 : decode cX9_say 45 = .ok (.ireturn, 1) := by decide +kernel
theorem yd_X9_say : yX9_say.cls = RX9 ∧ yX9_say.cls ≠ "java/lang/invoke/MethodHandle" ∧ yX9_say.cls ≠ "java/lang/invoke/VarHandle" ∧ (parseMethodDescriptor yX9_say.desc).map (fun d => d.parameters.length) = some 2 := by decide +kernel
abbrev rmX9_say : Room := { frames := 2, cells := 0, slots := 0, locals := 42 }
def fX9_say (o : Nat) (z : CS) (a1 : Int32) (a2 : Int32) : Option (Int32 × CS) :=
  (fX9_findingOfTask o z a1).bind fun q1 =>
  if q1.1 = 0 then
    (aQ 8 (q1.2.2.2.1 1) a1).bind fun v2 =>
    (v2).bind fun ad3 =>
    (dT q1.2 ad3).bind fun t5 =>
    (fX8_hasInput o q1.2 ad3 a2).bind fun q4 =>
    if q4 = 0 then
      (fX9_counted o q1.2 (-11 : Int32)).bind fun q6 =>
      some (q6.1, q6.2)
    else
      (dT q1.2 ad3).bind fun t7 =>
      (t7.2.2.2).bind fun ad8 =>
      (rdB q1.2 ad8 a2).bind fun v9 =>
      some (v9, q1.2)
  else
    some (q1.1, q1.2)
set_option maxHeartbeats 4000000 in
set_option maxRecDepth 100000 in
theorem tX9_say (κ : KK) (l : Launch) (o : Nat) (z : CS) (a1 : Int32) (a2 : Int32) (q : Int32 × CS) (h : fX9_say o z a1 a2 = some q) : MM κ l yX9_say cX9_say 5 (some .int) rmX9_say (CA o) [.ref o, .int a1, .int a2] (CB κ o z) (some (Value.int q.1)) (CB κ o q.2) := by
  refine MM.of (by decide +kernel) (Nat.le_of_ble_eq_true rfl) ?_
  intro p e s m below meth c C hnm
  unfold fX9_say at h
  refine G_sub (lv' := [(0, .ref o), (1, .int a1), (2, .int a2)]) [0, 1, 2] rfl ?_
  refine G_aload_n (pc' := 1) C dX9_say_0 0 rfl rfl ?_
  refine G_iload_n (pc' := 2) C dX9_say_1 1 rfl rfl ?_
  replace h := ob h
  obtain ⟨q1, hq1, h⟩ := h
  refine G_cV0 (pc' := 5) C dX9_say_2 (tX9_findingOfTask κ l o z a1 q1 hq1) (wV tw_ml_X9_145 tw_im_X9_findingOfTask tw_se_X9_X9_findingOfTask tw_in_X9 tw_co_X9_findingOfTask) yd_X9_findingOfTask rfl fi_X9 (CB_rd 0 rfl) rfl rfl (by decide) rfl (Nat.le_of_ble_eq_true rfl) rfl rfl ?_
  refine G_istore_n (pc' := 6) C dX9_say_5 [(3, .int q1.1), (0, .ref o), (1, .int a1), (2, .int a2)] (by decide) rfl rfl ?_
  refine G_iload_n (pc' := 7) C dX9_say_6 0 rfl rfl ?_
  refine G_if_eq (tgt := 12) (pc' := 10) C dX9_say_7 (by decide) rfl (fun hc => ?_) (fun hc => ?_)
  · replace h := z_ip hc h
    refine G_aload_n (pc' := 13) C dX9_say_12 1 rfl rfl ?_
    refine G_get (pc' := 16) (k := 1) C fi_X9 dX9_say_13 tw_fl_X9_17 rfl (by decide) (CB_rd 0 rfl) rfl rfl ?_
    refine G_iload_n (pc' := 17) C dX9_say_16 2 rfl rfl ?_
    replace h := ob h
    obtain ⟨v2, hv2, h⟩ := h
    refine G_aald5V (pc' := 18) C dX9_say_17 (CB_rd 2 rfl) hv2 rfl ?_
    refine G_qstore (pc' := 20) C dX9_say_18 [(4, va_rf v2), (3, .int q1.1), (0, .ref o), (1, .int a1), (2, .int a2)] (by decide) rfl rfl ?_
    refine G_qload (pc' := 22) C dX9_say_20 0 rfl rfl ?_
    refine G_iload_n (pc' := 23) C dX9_say_22 4 rfl rfl ?_
    replace h := ob h
    obtain ⟨ad3, had3, h⟩ := h
    subst had3
    replace h := ob h
    obtain ⟨t5, ht5, h⟩ := h
    replace h := ob h
    obtain ⟨q4, hq4, h⟩ := h
    refine G_cV0 (pc' := 26) C dX9_say_23 (tX8_hasInput κ l o q1.2 ad3 a2 q4 hq4) (wV tw_ml_X9_176 tw_im_X8_hasInput tw_se_X8_X8_hasInput tw_in_X8 tw_co_X8_hasInput) yd_X8_hasInput rfl fi_X8 (CB_T ht5) rfl rfl (by decide) rfl (Nat.le_of_ble_eq_true rfl) rfl rfl ?_
    refine G_if_eq (tgt := 39) (pc' := 29) C dX9_say_26 (by decide) rfl (fun hc => ?_) (fun hc => ?_)
    · replace h := z_ip hc h
      refine G_aload_n (pc' := 40) C dX9_say_39 2 rfl rfl ?_
      refine G_bipush (pc' := 42) (v := (-11 : Int32)) C dX9_say_40 (by decide) rfl ?_
      replace h := ob h
      obtain ⟨q6, hq6, h⟩ := h
      refine G_cV0 (pc' := 45) C dX9_say_42 (tX9_counted κ l o q1.2 (-11 : Int32) q6 hq6) (wV tw_ml_X9_103 tw_im_X9_counted tw_se_X9_X9_counted tw_in_X9 tw_co_X9_counted) yd_X9_counted rfl fi_X9 (CB_rd 0 rfl) rfl rfl (by decide) rfl (Nat.le_of_ble_eq_true rfl) rfl rfl ?_
      refine G_widen (k := rmX9_say.cells) (n := rmX9_say.slots) (by decide) (by decide) ?_
      obtain rfl := Option.some.inj h
      exact G_iret C dX9_say_45 (fun _ h => h)
    · replace h := z_in hc h
      refine G_aload (pc' := 31) C dX9_say_29 0 rfl rfl ?_
      replace h := ob h
      obtain ⟨t7, ht7, h⟩ := h
      refine G_get (pc' := 34) (k := 3) C fi_X8 dX9_say_31 tw_fl_X9_155 rfl (by decide) (CB_T ht7) rfl rfl ?_
      refine G_iload_n (pc' := 35) C dX9_say_34 4 rfl rfl ?_
      replace h := ob h
      obtain ⟨ad8, had8, h⟩ := h
      rw [had8]
      replace h := ob h
      obtain ⟨v9, hv9, h⟩ := h
      refine P_bald (pc' := 36) C dX9_say_35 hv9 rfl ?_
      refine G_goto (tgt := 45) C dX9_say_36 (by decide) ?_
      refine G_widen (k := rmX9_say.cells) (n := rmX9_say.slots) (by decide) (by decide) ?_
      obtain rfl := Option.some.inj h
      exact G_iret C dX9_say_45 (fun _ h => h)
  · replace h := z_in hc h
    refine G_iload_n (pc' := 11) C dX9_say_10 0 rfl rfl ?_
    refine G_widen (k := rmX9_say.cells) (n := rmX9_say.slots) (by decide) (by decide) ?_
    obtain rfl := Option.some.inj h
    exact G_iret C dX9_say_11 (fun _ h => h)
theorem dX9_set_0 : decode cX9_set 0 = .ok (.iload_n 3, 1) := by decide +kernel
theorem dX9_set_1 : decode cX9_set 1 = .ok (.ifCond .lt 8, 3) := by decide +kernel
theorem dX9_set_4 : decode cX9_set 4 = .ok (.iload_n 3, 1) := by decide +kernel
theorem dX9_set_5 : decode cX9_set 5 = .ok (.iconst 2, 1) := by decide +kernel
theorem dX9_set_6 : decode cX9_set 6 = .ok (.if_icmp .le 8, 3) := by decide +kernel
theorem dX9_set_9 : decode cX9_set 9 = .ok (.bipush (-2), 2) := by decide +kernel
theorem dX9_set_11 : decode cX9_set 11 = .ok (.goto 8, 3) := by decide +kernel
theorem dX9_set_14 : decode cX9_set 14 = .ok (.aload_n 0, 1) := by decide +kernel
theorem dX9_set_15 : decode cX9_set 15 = .ok (.iload_n 1, 1) := by decide +kernel
theorem dX9_set_16 : decode cX9_set 16 = .ok (.invokevirtual 145, 3) := by decide +kernel
theorem dX9_set_19 : decode cX9_set 19 = .ok (.istore 4, 2) := by decide +kernel
theorem dX9_set_21 : decode cX9_set 21 = .ok (.iload 4, 2) := by decide +kernel
theorem dX9_set_23 : decode cX9_set 23 = .ok (.ifCond .eq 6, 3) := by decide +kernel
theorem dX9_set_26 : decode cX9_set 26 = .ok (.iload 4, 2) := by decide +kernel
theorem dX9_set_28 : decode cX9_set 28 = .ok (.ireturn, 1) := by decide +kernel
theorem dX9_set_29 : decode cX9_set 29 = .ok (.aload_n 0, 1) := by decide +kernel
theorem dX9_set_30 : decode cX9_set 30 = .ok (.getfield 17, 3) := by decide +kernel
theorem dX9_set_33 : decode cX9_set 33 = .ok (.iload_n 1, 1) := by decide +kernel
theorem dX9_set_34 : decode cX9_set 34 = .ok (.aaload, 1) := by decide +kernel
theorem dX9_set_35 : decode cX9_set 35 = .ok (.astore 5, 2) := by decide +kernel
theorem dX9_set_37 : decode cX9_set 37 = .ok (.aload 5, 2) := by decide +kernel
theorem dX9_set_39 : decode cX9_set 39 = .ok (.iload_n 2, 1) := by decide +kernel
theorem dX9_set_40 : decode cX9_set 40 = .ok (.invokevirtual 176, 3) := by decide +kernel
theorem dX9_set_43 : decode cX9_set 43 = .ok (.ifCond .ne 10, 3) := by decide +kernel
theorem dX9_set_46 : decode cX9_set 46 = .ok (.aload_n 0, 1) := by decide +kernel
theorem dX9_set_47 : decode cX9_set 47 = .ok (.bipush (-11), 2) := by decide +kernel
theorem dX9_set_49 : decode cX9_set 49 = .ok (.invokevirtual 103, 3) := by decide +kernel
theorem dX9_set_52 : decode cX9_set 52 = .ok (.ireturn, 1) := by decide +kernel
theorem dX9_set_53 : decode cX9_set 53 = .ok (.aload 5, 2) := by decide +kernel
theorem dX9_set_55 : decode cX9_set 55 = .ok (.getfield 155, 3) := by decide +kernel
theorem dX9_set_58 : decode cX9_set 58 = .ok (.invokevirtual 179, 3) := by decide +kernel
theorem dX9_set_61 : decode cX9_set 61 = .ok (.checkcast 180, 3) := by decide +kernel
theorem dX9_set_64 : decode cX9_set 64 = .ok (.astore 6, 2) := by decide +kernel
theorem dX9_set_66 : decode cX9_set 66 = .ok (.aload 6, 2) := by decide +kernel
theorem dX9_set_68 : decode cX9_set 68 = .ok (.iload_n 2, 1) := by decide +kernel
theorem dX9_set_69 : decode cX9_set 69 = .ok (.iload_n 3, 1) := by decide +kernel
theorem dX9_set_70 : decode cX9_set 70 = .ok (.i2b, 1) := by decide +kernel
theorem dX9_set_71 : decode cX9_set 71 = .ok (.bastore, 1) := by decide +kernel
theorem dX9_set_72 : decode cX9_set 72 = .ok (.aload_n 0, 1) := by decide +kernel
theorem dX9_set_73 : decode cX9_set 73 = .ok (.getfield 17, 3) := by decide +kernel
theorem dX9_set_76 : decode cX9_set 76 = .ok (.iload_n 1, 1) := by decide +kernel
theorem dX9_set_77 : decode cX9_set 77 = .ok (.iconst 0, 1) := by decide +kernel
theorem dX9_set_78 : decode cX9_set 78 = .ok (.aload 5, 2) := by decide +kernel
theorem dX9_set_80 : decode cX9_set 80 = .ok (.getfield 152, 3) := by decide +kernel
theorem dX9_set_83 : decode cX9_set 83 = .ok (.aload 6, 2) := by decide +kernel
theorem dX9_set_85 : decode cX9_set 85 = .ok (.invokestatic 138, 3) := by decide +kernel
theorem dX9_set_88 : decode cX9_set 88 = .ok (.aastore, 1) := by decide +kernel
theorem dX9_set_89 : decode cX9_set 89 = .ok (.aload 5, 2) := by decide +kernel
theorem dX9_set_91 : decode cX9_set 91 = .ok (.getfield 155, 3) := by decide +kernel
theorem dX9_set_94 : decode cX9_set 94 = .ok (.iload_n 2, 1) := by decide +kernel
theorem dX9_set_95 : decode cX9_set 95 = .ok (.baload, 1) := by decide +kernel
theorem dX9_set_96 : decode cX9_set 96 = .ok (.ireturn, 1) := by decide +kernel
theorem yd_X9_set : yX9_set.cls = RX9 ∧ yX9_set.cls ≠ "java/lang/invoke/MethodHandle" ∧ yX9_set.cls ≠ "java/lang/invoke/VarHandle" ∧ (parseMethodDescriptor yX9_set.desc).map (fun d => d.parameters.length) = some 3 := by decide +kernel
abbrev rmX9_set : Room := { frames := 3, cells := 2, slots := 260, locals := 70 }
def fX9_set_J19 (o : Nat) (z : CS) (l1 : Int32) (l2 : Int32) (l3 : Int32) (s0 : Int32) : Option (Int32 × CS) :=
  if s0 = 0 then
    (aQ 8 (z.2.2.1 1) l1).bind fun v1 =>
    (v1).bind fun ad2 =>
    (dT z ad2).bind fun t4 =>
    (fX8_hasInput o z ad2 l2).bind fun q3 =>
    if q3 = 0 then
      (fX9_counted o z (-11 : Int32)).bind fun q15 =>
      some (q15.1, q15.2)
    else
      (dT z ad2).bind fun t5 =>
      (t5.2.2.2).bind fun ad6 =>
      (alC o z ad6).bind fun u7 =>
      (stB o u7.2 u7.1 l2 (Int8.toInt32 (Int32.toInt8 l3))).bind fun z8 =>
      (dT z8 ad2).bind fun t9 =>
      (fX9_plainTask o z8 (0 : Int32) t9.2.1 u7.1).bind fun q10 =>
      (stQT q10.2 1 l1 (some q10.1)).bind fun z11 =>
      (dT z11 ad2).bind fun t12 =>
      (t12.2.2.2).bind fun ad13 =>
      (rdB z11 ad13 l2).bind fun v14 =>
      some (v14, z11)
  else
    some (s0, z)
def fX9_set_J9 (o : Nat) (z : CS) (l1 : Int32) (l2 : Int32) (l3 : Int32) : Option (Int32 × CS) :=
  fX9_set_J19 o z l1 l2 l3 (-2 : Int32)
def fX9_set (o : Nat) (z : CS) (a1 : Int32) (a2 : Int32) (a3 : Int32) : Option (Int32 × CS) :=
  if a3 < 0 then
    fX9_set_J9 o z a1 a2 a3
  else
    if a3 ≤ (2 : Int32) then
      (fX9_findingOfTask o z a1).bind fun q16 =>
      fX9_set_J19 o q16.2 a1 a2 a3 q16.1
    else
      fX9_set_J9 o z a1 a2 a3
set_option maxHeartbeats 4000000 in
set_option maxRecDepth 100000 in
theorem tX9_set (κ : KK) (l : Launch) (o : Nat) (z : CS) (a1 : Int32) (a2 : Int32) (a3 : Int32) (q : Int32 × CS) (h : fX9_set o z a1 a2 a3 = some q) : MM κ l yX9_set cX9_set 7 (some .int) rmX9_set (CA o) [.ref o, .int a1, .int a2, .int a3] (CB κ o z) (some (Value.int q.1)) (CB κ o q.2) := by
  refine MM.of (by decide +kernel) (Nat.le_of_ble_eq_true rfl) ?_
  intro p e s m below meth c C hnm
  have J19 : ∀ (z : CS) (l1 : Int32) (l2 : Int32) (l3 : Int32) (s0 : Int32), fX9_set_J19 o z l1 l2 l3 s0 = some q → GC κ p l e s m ([.ref o, .int a1, .int a2, .int a3] : List Value).toArray below meth c rmX9_set 7 o (some (Value.int q.1)) (CB κ o q.2) 0 0 z 19 [(0, .ref o), (1, .int l1), (2, .int l2), (3, .int l3)] [.int s0] := by
    intro z l1 l2 l3 s0 h
    unfold fX9_set_J19 at h
    refine G_istore (pc' := 21) C dX9_set_19 [(4, .int s0), (0, .ref o), (1, .int l1), (2, .int l2), (3, .int l3)] (by decide) rfl rfl ?_
    refine G_iload (pc' := 23) C dX9_set_21 0 rfl rfl ?_
    refine G_if_eq (tgt := 29) (pc' := 26) C dX9_set_23 (by decide) rfl (fun hc => ?_) (fun hc => ?_)
    · replace h := z_ip hc h
      refine G_aload_n (pc' := 30) C dX9_set_29 1 rfl rfl ?_
      refine G_get (pc' := 33) (k := 1) C fi_X9 dX9_set_30 tw_fl_X9_17 rfl (by decide) (CB_rd 0 rfl) rfl rfl ?_
      refine G_iload_n (pc' := 34) C dX9_set_33 2 rfl rfl ?_
      replace h := ob h
      obtain ⟨v1, hv1, h⟩ := h
      refine G_aald5V (pc' := 35) C dX9_set_34 (CB_rd 2 rfl) hv1 rfl ?_
      refine G_qstore (pc' := 37) C dX9_set_35 [(5, va_rf v1), (4, .int s0), (0, .ref o), (1, .int l1), (2, .int l2), (3, .int l3)] (by decide) rfl rfl ?_
      refine G_qload (pc' := 39) C dX9_set_37 0 rfl rfl ?_
      refine G_iload_n (pc' := 40) C dX9_set_39 4 rfl rfl ?_
      replace h := ob h
      obtain ⟨ad2, had2, h⟩ := h
      subst had2
      replace h := ob h
      obtain ⟨t4, ht4, h⟩ := h
      replace h := ob h
      obtain ⟨q3, hq3, h⟩ := h
      refine G_cV0 (pc' := 43) C dX9_set_40 (tX8_hasInput κ l o z ad2 l2 q3 hq3) (wV tw_ml_X9_176 tw_im_X8_hasInput tw_se_X8_X8_hasInput tw_in_X8 tw_co_X8_hasInput) yd_X8_hasInput rfl fi_X8 (CB_T ht4) rfl rfl (by decide) rfl (Nat.le_of_ble_eq_true rfl) rfl rfl ?_
      refine G_if_ne (tgt := 53) (pc' := 46) C dX9_set_43 (by decide) rfl (fun hc => ?_) (fun hc => ?_)
      · replace h := z_in hc h
        refine G_aload (pc' := 55) C dX9_set_53 0 rfl rfl ?_
        replace h := ob h
        obtain ⟨t5, ht5, h⟩ := h
        refine G_get (pc' := 58) (k := 3) C fi_X8 dX9_set_55 tw_fl_X9_155 rfl (by decide) (CB_T ht5) rfl rfl ?_
        replace h := ob h
        obtain ⟨ad6, had6, h⟩ := h
        rw [had6]
        replace h := ob h
        obtain ⟨u7, hu7, h⟩ := h
        refine P_clone (pc' := 61) C dX9_set_58 tw_ml_X9_179 hu7 (by decide) rfl ?_
        refine P_castB (pc' := 64) C dX9_set_61 tw_cl_X9_180 (alC_d hu7) rfl ?_
        refine G_astore (pc' := 66) C dX9_set_64 [(6, .ref u7.1), (5, .ref ad2), (4, .int s0), (0, .ref o), (1, .int l1), (2, .int l2), (3, .int l3)] (by decide) rfl rfl ?_
        refine G_aload (pc' := 68) C dX9_set_66 0 rfl rfl ?_
        refine G_iload_n (pc' := 69) C dX9_set_68 5 rfl rfl ?_
        refine G_iload_n (pc' := 70) C dX9_set_69 6 rfl rfl ?_
        refine G_i2b (pc' := 71) C dX9_set_70 rfl ?_
        replace h := ob h
        obtain ⟨z8, hz8, h⟩ := h
        refine P_bast (pc' := 72) C dX9_set_71 hz8 rfl ?_
        refine G_aload_n (pc' := 73) C dX9_set_72 3 rfl rfl ?_
        refine G_get (pc' := 76) (k := 1) C fi_X9 dX9_set_73 tw_fl_X9_17 rfl (by decide) (CB_rd 0 rfl) rfl rfl ?_
        refine G_iload_n (pc' := 77) C dX9_set_76 4 rfl rfl ?_
        refine G_iconst (pc' := 78) (v := (0 : Int32)) C dX9_set_77 (by decide) rfl ?_
        refine G_aload (pc' := 80) C dX9_set_78 1 rfl rfl ?_
        replace h := ob h
        obtain ⟨t9, ht9, h⟩ := h
        refine G_get (pc' := 83) (k := 1) C fi_X8 dX9_set_80 tw_fl_X9_152 rfl (by decide) (CB_T ht9) rfl rfl ?_
        refine G_aload (pc' := 85) C dX9_set_83 0 rfl rfl ?_
        replace h := ob h
        obtain ⟨q10, hq10, h⟩ := h
        refine G_cS (pc' := 88) C dX9_set_85 (tX9_plainTask κ l o z8 (0 : Int32) t9.2.1 u7.1 q10 hq10) (wS tw_ml_X9_138 tw_st_X9_plainTask tw_co_X9_plainTask tw_in_X9) yd_X9_plainTask rfl (by decide) rfl (Nat.le_of_ble_eq_true rfl) rfl rfl ?_
        replace h := ob h
        obtain ⟨z11, hz11, h⟩ := h
        refine C_q_places (pc' := 89) (x := (some q10.1)) C dX9_set_88 hz11 rfl ?_
        refine G_aload (pc' := 91) C dX9_set_89 1 rfl rfl ?_
        replace h := ob h
        obtain ⟨t12, ht12, h⟩ := h
        refine G_get (pc' := 94) (k := 3) C fi_X8 dX9_set_91 tw_fl_X9_155 rfl (by decide) (CB_T ht12) rfl rfl ?_
        refine G_iload_n (pc' := 95) C dX9_set_94 5 rfl rfl ?_
        replace h := ob h
        obtain ⟨ad13, had13, h⟩ := h
        rw [had13]
        replace h := ob h
        obtain ⟨v14, hv14, h⟩ := h
        refine P_bald (pc' := 96) C dX9_set_95 hv14 rfl ?_
        refine G_widen (k := rmX9_set.cells) (n := rmX9_set.slots) (by decide) (by decide) ?_
        obtain rfl := Option.some.inj h
        exact G_iret C dX9_set_96 (fun _ h => h)
      · replace h := z_ip hc h
        refine G_aload_n (pc' := 47) C dX9_set_46 2 rfl rfl ?_
        refine G_bipush (pc' := 49) (v := (-11 : Int32)) C dX9_set_47 (by decide) rfl ?_
        replace h := ob h
        obtain ⟨q15, hq15, h⟩ := h
        refine G_cV0 (pc' := 52) C dX9_set_49 (tX9_counted κ l o z (-11 : Int32) q15 hq15) (wV tw_ml_X9_103 tw_im_X9_counted tw_se_X9_X9_counted tw_in_X9 tw_co_X9_counted) yd_X9_counted rfl fi_X9 (CB_rd 0 rfl) rfl rfl (by decide) rfl (Nat.le_of_ble_eq_true rfl) rfl rfl ?_
        refine G_widen (k := rmX9_set.cells) (n := rmX9_set.slots) (by decide) (by decide) ?_
        obtain rfl := Option.some.inj h
        exact G_iret C dX9_set_52 (fun _ h => h)
    · replace h := z_in hc h
      refine G_iload (pc' := 28) C dX9_set_26 0 rfl rfl ?_
      refine G_widen (k := rmX9_set.cells) (n := rmX9_set.slots) (by decide) (by decide) ?_
      obtain rfl := Option.some.inj h
      exact G_iret C dX9_set_28 (fun _ h => h)
  have J9 : ∀ (z : CS) (l1 : Int32) (l2 : Int32) (l3 : Int32), fX9_set_J9 o z l1 l2 l3 = some q → GC κ p l e s m ([.ref o, .int a1, .int a2, .int a3] : List Value).toArray below meth c rmX9_set 7 o (some (Value.int q.1)) (CB κ o q.2) 0 0 z 9 [(0, .ref o), (1, .int l1), (2, .int l2), (3, .int l3)] [] := by
    intro z l1 l2 l3 h
    unfold fX9_set_J9 at h
    refine G_bipush (pc' := 11) (v := (-2 : Int32)) C dX9_set_9 (by decide) rfl ?_
    refine G_goto (tgt := 19) C dX9_set_11 (by decide) ?_
    exact G_sub (lv' := [(0, .ref o), (1, .int l1), (2, .int l2), (3, .int l3)]) [0, 1, 2, 3] rfl (J19 z l1 l2 l3 (-2 : Int32) h)
  unfold fX9_set at h
  refine G_sub (lv' := [(0, .ref o), (1, .int a1), (2, .int a2), (3, .int a3)]) [0, 1, 2, 3] rfl ?_
  refine G_iload_n (pc' := 1) C dX9_set_0 3 rfl rfl ?_
  refine G_if_lt (tgt := 9) (pc' := 4) C dX9_set_1 (by decide) rfl (fun hc => ?_) (fun hc => ?_)
  · replace h := z_ip hc h
    exact G_sub (lv' := [(0, .ref o), (1, .int a1), (2, .int a2), (3, .int a3)]) [0, 1, 2, 3] rfl (J9 z a1 a2 a3 h)
  · replace h := z_in hc h
    refine G_iload_n (pc' := 5) C dX9_set_4 3 rfl rfl ?_
    refine G_iconst (pc' := 6) (v := (2 : Int32)) C dX9_set_5 (by decide) rfl ?_
    refine G_icmp_le (tgt := 14) (pc' := 9) C dX9_set_6 (by decide) rfl (fun hc => ?_) (fun hc => ?_)
    · replace h := z_ip hc h
      refine G_aload_n (pc' := 15) C dX9_set_14 0 rfl rfl ?_
      refine G_iload_n (pc' := 16) C dX9_set_15 1 rfl rfl ?_
      replace h := ob h
      obtain ⟨q16, hq16, h⟩ := h
      refine G_cV0 (pc' := 19) C dX9_set_16 (tX9_findingOfTask κ l o z a1 q16 hq16) (wV tw_ml_X9_145 tw_im_X9_findingOfTask tw_se_X9_X9_findingOfTask tw_in_X9 tw_co_X9_findingOfTask) yd_X9_findingOfTask rfl fi_X9 (CB_rd 0 rfl) rfl rfl (by decide) rfl (Nat.le_of_ble_eq_true rfl) rfl rfl ?_
      exact G_sub (lv' := [(0, .ref o), (1, .int a1), (2, .int a2), (3, .int a3)]) [0, 1, 2, 3] rfl (J19 q16.2 a1 a2 a3 q16.1 h)
    · replace h := z_in hc h
      exact G_sub (lv' := [(0, .ref o), (1, .int a1), (2, .int a2), (3, .int a3)]) [0, 1, 2, 3] rfl (J9 z a1 a2 a3 h)
theorem dX9_of_0 : decode cX9_of 0 = .ok (.iload_n 2, 1) := by decide +kernel
theorem dX9_of_1 : decode cX9_of 1 = .ok (.ifCond .lt 8, 3) := by decide +kernel
theorem dX9_of_4 : decode cX9_of 4 = .ok (.iload_n 2, 1) := by decide +kernel
theorem dX9_of_5 : decode cX9_of 5 = .ok (.iconst 4, 1) := by decide +kernel
theorem dX9_of_6 : decode cX9_of 6 = .ok (.if_icmp .le 8, 3) := by decide +kernel
theorem dX9_of_9 : decode cX9_of 9 = .ok (.bipush (-2), 2) := by decide +kernel
theorem dX9_of_11 : decode cX9_of 11 = .ok (.goto 8, 3) := by decide +kernel
theorem dX9_of_14 : decode cX9_of 14 = .ok (.aload_n 0, 1) := by decide +kernel
theorem dX9_of_15 : decode cX9_of 15 = .ok (.iload_n 1, 1) := by decide +kernel
theorem dX9_of_16 : decode cX9_of 16 = .ok (.invokevirtual 145, 3) := by decide +kernel
theorem dX9_of_19 : decode cX9_of 19 = .ok (.istore_n 3, 1) := by decide +kernel
theorem dX9_of_20 : decode cX9_of 20 = .ok (.iload_n 3, 1) := by decide +kernel
theorem dX9_of_21 : decode cX9_of 21 = .ok (.ifCond .eq 5, 3) := by decide +kernel
theorem dX9_of_24 : decode cX9_of 24 = .ok (.iload_n 3, 1) := by decide +kernel
theorem dX9_of_25 : decode cX9_of 25 = .ok (.ireturn, 1) := by decide +kernel
theorem dX9_of_26 : decode cX9_of 26 = .ok (.aload_n 0, 1) := by decide +kernel
theorem dX9_of_27 : decode cX9_of 27 = .ok (.getfield 17, 3) := by decide +kernel
theorem dX9_of_30 : decode cX9_of 30 = .ok (.iload_n 1, 1) := by decide +kernel
theorem dX9_of_31 : decode cX9_of 31 = .ok (.aaload, 1) := by decide +kernel
theorem dX9_of_32 : decode cX9_of 32 = .ok (.astore 4, 2) := by decide +kernel
theorem dX9_of_34 : decode cX9_of 34 = .ok (.iload_n 2, 1) := by decide +kernel
theorem dX9_of_35 : decode cX9_of 35 = .ok (.tableswitch 55 0 3 #[29, 35, 41, 48], 29) := by decide +kernel
theorem dX9_of_64 : decode cX9_of 64 = .ok (.aload 4, 2) := by decide +kernel
theorem dX9_of_66 : decode cX9_of 66 = .ok (.getfield 159, 3) := by decide +kernel
theorem dX9_of_69 : decode cX9_of 69 = .ok (.ireturn, 1) := by decide +kernel
theorem dX9_of_70 : decode cX9_of 70 = .ok (.aload 4, 2) := by decide +kernel
theorem dX9_of_72 : decode cX9_of 72 = .ok (.getfield 152, 3) := by decide +kernel
theorem dX9_of_75 : decode cX9_of 75 = .ok (.ireturn, 1) := by decide +kernel
theorem dX9_of_76 : decode cX9_of 76 = .ok (.aload 4, 2) := by decide +kernel
theorem dX9_of_78 : decode cX9_of 78 = .ok (.iconst 1, 1) := by decide +kernel
theorem dX9_of_79 : decode cX9_of 79 = .ok (.invokevirtual 142, 3) := by decide +kernel
theorem dX9_of_82 : decode cX9_of 82 = .ok (.ireturn, 1) := by decide +kernel
theorem dX9_of_83 : decode cX9_of 83 = .ok (.aload 4, 2) := by decide +kernel
theorem dX9_of_85 : decode cX9_of 85 = .ok (.iconst 2, 1) := by decide +kernel
theorem dX9_of_86 : decode cX9_of 86 = .ok (.invokevirtual 142, 3) := by decide +kernel
theorem dX9_of_89 : decode cX9_of 89 = .ok (.ireturn, 1) := by decide +kernel
theorem dX9_of_90 : decode cX9_of 90 = .ok (.aload 4, 2) := by decide +kernel
theorem dX9_of_92 : decode cX9_of 92 = .ok (.getfield 184, 3) := by decide +kernel
theorem dX9_of_95 : decode cX9_of 95 = .ok (.ireturn, 1) := by decide +kernel
theorem yd_X9_of : yX9_of.cls = RX9 ∧ yX9_of.cls ≠ "java/lang/invoke/MethodHandle" ∧ yX9_of.cls ≠ "java/lang/invoke/VarHandle" ∧ (parseMethodDescriptor yX9_of.desc).map (fun d => d.parameters.length) = some 2 := by decide +kernel
abbrev rmX9_of : Room := { frames := 2, cells := 0, slots := 0, locals := 42 }
def fX9_of_J19 (o : Nat) (z : CS) (l1 : Int32) (l2 : Int32) (s0 : Int32) : Option (Int32 × CS) :=
  if s0 = 0 then
    (aQ 8 (z.2.2.1 1) l1).bind fun v1 =>
    if l2 = (0 : Int32) then
      (v1).bind fun ad2 =>
      (dT z ad2).bind fun t3 =>
      some (t3.1, z)
    else
    if l2 = (1 : Int32) then
      (v1).bind fun ad4 =>
      (dT z ad4).bind fun t5 =>
      some (t5.2.1, z)
    else
    if l2 = (2 : Int32) then
      (v1).bind fun ad6 =>
      (dT z ad6).bind fun t8 =>
      (fX8_howMany o z ad6 (1 : Int32)).bind fun q7 =>
      some (q7, z)
    else
    if l2 = (3 : Int32) then
      (v1).bind fun ad9 =>
      (dT z ad9).bind fun t11 =>
      (fX8_howMany o z ad9 (2 : Int32)).bind fun q10 =>
      some (q10, z)
    else
      (v1).bind fun ad12 =>
      (dT z ad12).bind fun t13 =>
      some (t13.2.2.1, z)
  else
    some (s0, z)
def fX9_of_J9 (o : Nat) (z : CS) (l1 : Int32) (l2 : Int32) : Option (Int32 × CS) :=
  fX9_of_J19 o z l1 l2 (-2 : Int32)
def fX9_of (o : Nat) (z : CS) (a1 : Int32) (a2 : Int32) : Option (Int32 × CS) :=
  if a2 < 0 then
    fX9_of_J9 o z a1 a2
  else
    if a2 ≤ (4 : Int32) then
      (fX9_findingOfTask o z a1).bind fun q14 =>
      fX9_of_J19 o q14.2 a1 a2 q14.1
    else
      fX9_of_J9 o z a1 a2
set_option maxHeartbeats 4000000 in
set_option maxRecDepth 100000 in
theorem tX9_of (κ : KK) (l : Launch) (o : Nat) (z : CS) (a1 : Int32) (a2 : Int32) (q : Int32 × CS) (h : fX9_of o z a1 a2 = some q) : MM κ l yX9_of cX9_of 5 (some .int) rmX9_of (CA o) [.ref o, .int a1, .int a2] (CB κ o z) (some (Value.int q.1)) (CB κ o q.2) := by
  refine MM.of (by decide +kernel) (Nat.le_of_ble_eq_true rfl) ?_
  intro p e s m below meth c C hnm
  have J19 : ∀ (z : CS) (l1 : Int32) (l2 : Int32) (s0 : Int32), fX9_of_J19 o z l1 l2 s0 = some q → GC κ p l e s m ([.ref o, .int a1, .int a2] : List Value).toArray below meth c rmX9_of 5 o (some (Value.int q.1)) (CB κ o q.2) 0 0 z 19 [(0, .ref o), (1, .int l1), (2, .int l2)] [.int s0] := by
    intro z l1 l2 s0 h
    unfold fX9_of_J19 at h
    refine G_istore_n (pc' := 20) C dX9_of_19 [(3, .int s0), (0, .ref o), (1, .int l1), (2, .int l2)] (by decide) rfl rfl ?_
    refine G_iload_n (pc' := 21) C dX9_of_20 0 rfl rfl ?_
    refine G_if_eq (tgt := 26) (pc' := 24) C dX9_of_21 (by decide) rfl (fun hc => ?_) (fun hc => ?_)
    · replace h := z_ip hc h
      refine G_aload_n (pc' := 27) C dX9_of_26 1 rfl rfl ?_
      refine G_get (pc' := 30) (k := 1) C fi_X9 dX9_of_27 tw_fl_X9_17 rfl (by decide) (CB_rd 0 rfl) rfl rfl ?_
      refine G_iload_n (pc' := 31) C dX9_of_30 2 rfl rfl ?_
      replace h := ob h
      obtain ⟨v1, hv1, h⟩ := h
      refine G_aald5V (pc' := 32) C dX9_of_31 (CB_rd 2 rfl) hv1 rfl ?_
      refine G_qstore (pc' := 34) C dX9_of_32 [(4, va_rf v1), (3, .int s0), (0, .ref o), (1, .int l1), (2, .int l2)] (by decide) rfl rfl ?_
      refine G_iload_n (pc' := 35) C dX9_of_34 4 rfl rfl ?_
      by_cases hc0 : l2 = (0 : Int32)
      · replace h := z_ip hc0 h
        refine G_tabIn (tgt := 64) C dX9_of_35 (by rw [hc0]; decide) (by rw [hc0]; decide) (by rw [hc0]; rfl) (by decide) ?_
        refine G_qload (pc' := 66) C dX9_of_64 0 rfl rfl ?_
        replace h := ob h
        obtain ⟨ad2, had2, h⟩ := h
        subst had2
        replace h := ob h
        obtain ⟨t3, ht3, h⟩ := h
        refine G_get (pc' := 69) (k := 0) C fi_X8 dX9_of_66 tw_fl_X9_159 rfl (by decide) (CB_T ht3) rfl rfl ?_
        refine G_widen (k := rmX9_of.cells) (n := rmX9_of.slots) (by decide) (by decide) ?_
        obtain rfl := Option.some.inj h
        exact G_iret C dX9_of_69 (fun _ h => h)
      replace h := z_in hc0 h
      by_cases hc1 : l2 = (1 : Int32)
      · replace h := z_ip hc1 h
        refine G_tabIn (tgt := 70) C dX9_of_35 (by rw [hc1]; decide) (by rw [hc1]; decide) (by rw [hc1]; rfl) (by decide) ?_
        refine G_qload (pc' := 72) C dX9_of_70 0 rfl rfl ?_
        replace h := ob h
        obtain ⟨ad4, had4, h⟩ := h
        subst had4
        replace h := ob h
        obtain ⟨t5, ht5, h⟩ := h
        refine G_get (pc' := 75) (k := 1) C fi_X8 dX9_of_72 tw_fl_X9_152 rfl (by decide) (CB_T ht5) rfl rfl ?_
        refine G_widen (k := rmX9_of.cells) (n := rmX9_of.slots) (by decide) (by decide) ?_
        obtain rfl := Option.some.inj h
        exact G_iret C dX9_of_75 (fun _ h => h)
      replace h := z_in hc1 h
      by_cases hc2 : l2 = (2 : Int32)
      · replace h := z_ip hc2 h
        refine G_tabIn (tgt := 76) C dX9_of_35 (by rw [hc2]; decide) (by rw [hc2]; decide) (by rw [hc2]; rfl) (by decide) ?_
        refine G_qload (pc' := 78) C dX9_of_76 0 rfl rfl ?_
        refine G_iconst (pc' := 79) (v := (1 : Int32)) C dX9_of_78 (by decide) rfl ?_
        replace h := ob h
        obtain ⟨ad6, had6, h⟩ := h
        subst had6
        replace h := ob h
        obtain ⟨t8, ht8, h⟩ := h
        replace h := ob h
        obtain ⟨q7, hq7, h⟩ := h
        refine G_cV0 (pc' := 82) C dX9_of_79 (tX8_howMany κ l o z ad6 (1 : Int32) q7 hq7) (wV tw_ml_X9_142 tw_im_X8_howMany tw_se_X8_X8_howMany tw_in_X8 tw_co_X8_howMany) yd_X8_howMany rfl fi_X8 (CB_T ht8) rfl rfl (by decide) rfl (Nat.le_of_ble_eq_true rfl) rfl rfl ?_
        refine G_widen (k := rmX9_of.cells) (n := rmX9_of.slots) (by decide) (by decide) ?_
        obtain rfl := Option.some.inj h
        exact G_iret C dX9_of_82 (fun _ h => h)
      replace h := z_in hc2 h
      by_cases hc3 : l2 = (3 : Int32)
      · replace h := z_ip hc3 h
        refine G_tabIn (tgt := 83) C dX9_of_35 (by rw [hc3]; decide) (by rw [hc3]; decide) (by rw [hc3]; rfl) (by decide) ?_
        refine G_qload (pc' := 85) C dX9_of_83 0 rfl rfl ?_
        refine G_iconst (pc' := 86) (v := (2 : Int32)) C dX9_of_85 (by decide) rfl ?_
        replace h := ob h
        obtain ⟨ad9, had9, h⟩ := h
        subst had9
        replace h := ob h
        obtain ⟨t11, ht11, h⟩ := h
        replace h := ob h
        obtain ⟨q10, hq10, h⟩ := h
        refine G_cV0 (pc' := 89) C dX9_of_86 (tX8_howMany κ l o z ad9 (2 : Int32) q10 hq10) (wV tw_ml_X9_142 tw_im_X8_howMany tw_se_X8_X8_howMany tw_in_X8 tw_co_X8_howMany) yd_X8_howMany rfl fi_X8 (CB_T ht11) rfl rfl (by decide) rfl (Nat.le_of_ble_eq_true rfl) rfl rfl ?_
        refine G_widen (k := rmX9_of.cells) (n := rmX9_of.slots) (by decide) (by decide) ?_
        obtain rfl := Option.some.inj h
        exact G_iret C dX9_of_89 (fun _ h => h)
      replace h := z_in hc3 h
      refine G_tabOut (tgt := 90) C dX9_of_35 (z_out0_3 hc0 hc1 hc2 hc3) (by decide) ?_
      refine G_qload (pc' := 92) C dX9_of_90 0 rfl rfl ?_
      replace h := ob h
      obtain ⟨ad12, had12, h⟩ := h
      subst had12
      replace h := ob h
      obtain ⟨t13, ht13, h⟩ := h
      refine G_get (pc' := 95) (k := 2) C fi_X8 dX9_of_92 tw_fl_X9_184 rfl (by decide) (CB_T ht13) rfl rfl ?_
      refine G_widen (k := rmX9_of.cells) (n := rmX9_of.slots) (by decide) (by decide) ?_
      obtain rfl := Option.some.inj h
      exact G_iret C dX9_of_95 (fun _ h => h)
    · replace h := z_in hc h
      refine G_iload_n (pc' := 25) C dX9_of_24 0 rfl rfl ?_
      refine G_widen (k := rmX9_of.cells) (n := rmX9_of.slots) (by decide) (by decide) ?_
      obtain rfl := Option.some.inj h
      exact G_iret C dX9_of_25 (fun _ h => h)
  have J9 : ∀ (z : CS) (l1 : Int32) (l2 : Int32), fX9_of_J9 o z l1 l2 = some q → GC κ p l e s m ([.ref o, .int a1, .int a2] : List Value).toArray below meth c rmX9_of 5 o (some (Value.int q.1)) (CB κ o q.2) 0 0 z 9 [(0, .ref o), (1, .int l1), (2, .int l2)] [] := by
    intro z l1 l2 h
    unfold fX9_of_J9 at h
    refine G_bipush (pc' := 11) (v := (-2 : Int32)) C dX9_of_9 (by decide) rfl ?_
    refine G_goto (tgt := 19) C dX9_of_11 (by decide) ?_
    exact G_sub (lv' := [(0, .ref o), (1, .int l1), (2, .int l2)]) [0, 1, 2] rfl (J19 z l1 l2 (-2 : Int32) h)
  unfold fX9_of at h
  refine G_sub (lv' := [(0, .ref o), (1, .int a1), (2, .int a2)]) [0, 1, 2] rfl ?_
  refine G_iload_n (pc' := 1) C dX9_of_0 2 rfl rfl ?_
  refine G_if_lt (tgt := 9) (pc' := 4) C dX9_of_1 (by decide) rfl (fun hc => ?_) (fun hc => ?_)
  · replace h := z_ip hc h
    exact G_sub (lv' := [(0, .ref o), (1, .int a1), (2, .int a2)]) [0, 1, 2] rfl (J9 z a1 a2 h)
  · replace h := z_in hc h
    refine G_iload_n (pc' := 5) C dX9_of_4 2 rfl rfl ?_
    refine G_iconst (pc' := 6) (v := (4 : Int32)) C dX9_of_5 (by decide) rfl ?_
    refine G_icmp_le (tgt := 14) (pc' := 9) C dX9_of_6 (by decide) rfl (fun hc => ?_) (fun hc => ?_)
    · replace h := z_ip hc h
      refine G_aload_n (pc' := 15) C dX9_of_14 0 rfl rfl ?_
      refine G_iload_n (pc' := 16) C dX9_of_15 1 rfl rfl ?_
      replace h := ob h
      obtain ⟨q14, hq14, h⟩ := h
      refine G_cV0 (pc' := 19) C dX9_of_16 (tX9_findingOfTask κ l o z a1 q14 hq14) (wV tw_ml_X9_145 tw_im_X9_findingOfTask tw_se_X9_X9_findingOfTask tw_in_X9 tw_co_X9_findingOfTask) yd_X9_findingOfTask rfl fi_X9 (CB_rd 0 rfl) rfl rfl (by decide) rfl (Nat.le_of_ble_eq_true rfl) rfl rfl ?_
      exact G_sub (lv' := [(0, .ref o), (1, .int a1), (2, .int a2)]) [0, 1, 2] rfl (J19 q14.2 a1 a2 q14.1 h)
    · replace h := z_in hc h
      exact G_sub (lv' := [(0, .ref o), (1, .int a1), (2, .int a2)]) [0, 1, 2] rfl (J9 z a1 a2 h)
theorem dX9_clear_0 : decode cX9_clear 0 = .ok (.iload_n 1, 1) := by decide +kernel
theorem dX9_clear_1 : decode cX9_clear 1 = .ok (.invokestatic 131, 3) := by decide +kernel
theorem dX9_clear_4 : decode cX9_clear 4 = .ok (.ifCond .ne 6, 3) := by decide +kernel
theorem dX9_clear_7 : decode cX9_clear 7 = .ok (.bipush (-2), 2) := by decide +kernel
theorem dX9_clear_9 : decode cX9_clear 9 = .ok (.ireturn, 1) := by decide +kernel
theorem dX9_clear_10 : decode cX9_clear 10 = .ok (.aload_n 0, 1) := by decide +kernel
theorem dX9_clear_11 : decode cX9_clear 11 = .ok (.getfield 17, 3) := by decide +kernel
theorem dX9_clear_14 : decode cX9_clear 14 = .ok (.iload_n 1, 1) := by decide +kernel
theorem dX9_clear_15 : decode cX9_clear 15 = .ok (.aaload, 1) := by decide +kernel
theorem dX9_clear_16 : decode cX9_clear 16 = .ok (.ifnonnull 7, 3) := by decide +kernel
theorem dX9_clear_19 : decode cX9_clear 19 = .ok (.iconst 0, 1) := by decide +kernel
theorem dX9_clear_20 : decode cX9_clear 20 = .ok (.goto 4, 3) := by decide +kernel
theorem dX9_clear_23 : decode cX9_clear 23 = .ok (.iconst 1, 1) := by decide +kernel
theorem dX9_clear_24 : decode cX9_clear 24 = .ok (.istore_n 2, 1) := by decide +kernel
theorem dX9_clear_25 : decode cX9_clear 25 = .ok (.aload_n 0, 1) := by decide +kernel
theorem dX9_clear_26 : decode cX9_clear 26 = .ok (.getfield 17, 3) := by decide +kernel
theorem dX9_clear_29 : decode cX9_clear 29 = .ok (.iload_n 1, 1) := by decide +kernel
theorem dX9_clear_30 : decode cX9_clear 30 = .ok (.aconst_null, 1) := by decide +kernel
theorem dX9_clear_31 : decode cX9_clear 31 = .ok (.aastore, 1) := by decide +kernel
theorem dX9_clear_32 : decode cX9_clear 32 = .ok (.iload_n 2, 1) := by decide +kernel
theorem dX9_clear_33 : decode cX9_clear 33 = .ok (.ireturn, 1) := by decide +kernel
theorem yd_X9_clear : yX9_clear.cls = RX9 ∧ yX9_clear.cls ≠ "java/lang/invoke/MethodHandle" ∧ yX9_clear.cls ≠ "java/lang/invoke/VarHandle" ∧ (parseMethodDescriptor yX9_clear.desc).map (fun d => d.parameters.length) = some 1 := by decide +kernel
abbrev rmX9_clear : Room := { frames := 1, cells := 0, slots := 0, locals := 20 }
def fX9_clear_J24 (o : Nat) (z : CS) (l1 : Int32) (s0 : Int32) : Option (Int32 × CS) :=
  (stQT z 1 l1 none).bind fun z4 =>
  some (s0, z4)
def fX9_clear (o : Nat) (z : CS) (a1 : Int32) : Option (Int32 × CS) :=
  (fX9_isPlace a1).bind fun q1 =>
  if q1 = 0 then
    some ((-2 : Int32), z)
  else
    (aQ 8 (z.2.2.1 1) a1).bind fun v2 =>
    qc v2
      (
        fX9_clear_J24 o z a1 (0 : Int32)
      )
      (fun ad3 =>
        fX9_clear_J24 o z a1 (1 : Int32)
      )
set_option maxHeartbeats 4000000 in
set_option maxRecDepth 100000 in
theorem tX9_clear (κ : KK) (l : Launch) (o : Nat) (z : CS) (a1 : Int32) (q : Int32 × CS) (h : fX9_clear o z a1 = some q) : MM κ l yX9_clear cX9_clear 3 (some .int) rmX9_clear (CA o) [.ref o, .int a1] (CB κ o z) (some (Value.int q.1)) (CB κ o q.2) := by
  refine MM.of (by decide +kernel) (Nat.le_of_ble_eq_true rfl) ?_
  intro p e s m below meth c C hnm
  have J24 : ∀ (z : CS) (l1 : Int32) (s0 : Int32), fX9_clear_J24 o z l1 s0 = some q → GC κ p l e s m ([.ref o, .int a1] : List Value).toArray below meth c rmX9_clear 3 o (some (Value.int q.1)) (CB κ o q.2) 0 0 z 24 [(0, .ref o), (1, .int l1)] [.int s0] := by
    intro z l1 s0 h
    unfold fX9_clear_J24 at h
    refine G_istore_n (pc' := 25) C dX9_clear_24 [(2, .int s0), (0, .ref o), (1, .int l1)] (by decide) rfl rfl ?_
    refine G_aload_n (pc' := 26) C dX9_clear_25 1 rfl rfl ?_
    refine G_get (pc' := 29) (k := 1) C fi_X9 dX9_clear_26 tw_fl_X9_17 rfl (by decide) (CB_rd 0 rfl) rfl rfl ?_
    refine G_iload_n (pc' := 30) C dX9_clear_29 2 rfl rfl ?_
    refine G_null (pc' := 31) C dX9_clear_30 rfl ?_
    replace h := ob h
    obtain ⟨z4, hz4, h⟩ := h
    refine C_q_places (pc' := 32) (x := none) C dX9_clear_31 hz4 rfl ?_
    refine G_iload_n (pc' := 33) C dX9_clear_32 0 rfl rfl ?_
    refine G_widen (k := rmX9_clear.cells) (n := rmX9_clear.slots) (by decide) (by decide) ?_
    obtain rfl := Option.some.inj h
    exact G_iret C dX9_clear_33 (fun _ h => h)
  unfold fX9_clear at h
  refine G_sub (lv' := [(0, .ref o), (1, .int a1)]) [0, 1] rfl ?_
  refine G_iload_n (pc' := 1) C dX9_clear_0 1 rfl rfl ?_
  replace h := ob h
  obtain ⟨q1, hq1, h⟩ := h
  refine G_cS0 (pc' := 4) C dX9_clear_1 (tX9_isPlace κ l (CA o) (CB κ o z) a1 q1 hq1) (wS tw_ml_X9_131 tw_st_X9_isPlace tw_co_X9_isPlace tw_in_X9) yd_X9_isPlace rfl rfl rfl (by decide) rfl (Nat.le_of_ble_eq_true rfl) rfl rfl ?_
  refine G_if_ne (tgt := 10) (pc' := 7) C dX9_clear_4 (by decide) rfl (fun hc => ?_) (fun hc => ?_)
  · replace h := z_in hc h
    refine G_aload_n (pc' := 11) C dX9_clear_10 0 rfl rfl ?_
    refine G_get (pc' := 14) (k := 1) C fi_X9 dX9_clear_11 tw_fl_X9_17 rfl (by decide) (CB_rd 0 rfl) rfl rfl ?_
    refine G_iload_n (pc' := 15) C dX9_clear_14 1 rfl rfl ?_
    replace h := ob h
    obtain ⟨v2, hv2, h⟩ := h
    refine G_aald5V (pc' := 16) C dX9_clear_15 (CB_rd 2 rfl) hv2 rfl ?_
    refine G_ifnonnull (tgt := 23) (pc' := 19) C dX9_clear_16 (by decide) rfl (fun ad3 hc => ?_) (fun hc => ?_)
    · replace h := z_qs hc h
      subst hc
      refine G_iconst (pc' := 24) (v := (1 : Int32)) C dX9_clear_23 (by decide) rfl ?_
      exact G_sub (lv' := [(0, .ref o), (1, .int a1)]) [0, 1] rfl (J24 z a1 (1 : Int32) h)
    · replace h := z_qn hc h
      refine G_iconst (pc' := 20) (v := (0 : Int32)) C dX9_clear_19 (by decide) rfl ?_
      refine G_goto (tgt := 24) C dX9_clear_20 (by decide) ?_
      exact G_sub (lv' := [(0, .ref o), (1, .int a1)]) [0, 1] rfl (J24 z a1 (0 : Int32) h)
  · replace h := z_ip hc h
    refine G_bipush (pc' := 9) (v := (-2 : Int32)) C dX9_clear_7 (by decide) rfl ?_
    refine G_widen (k := rmX9_clear.cells) (n := rmX9_clear.slots) (by decide) (by decide) ?_
    obtain rfl := Option.some.inj h
    exact G_iret C dX9_clear_9 (fun _ h => h)
