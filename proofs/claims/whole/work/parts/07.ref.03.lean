theorem dX10_clear_0 : decode cX10_clear 0 = .ok (.iload_n 1, 1) := by decide +kernel
theorem dX10_clear_1 : decode cX10_clear 1 = .ok (.invokestatic 115, 3) := by decide +kernel
theorem dX10_clear_4 : decode cX10_clear 4 = .ok (.ifCond .ne 6, 3) := by decide +kernel
theorem dX10_clear_7 : decode cX10_clear 7 = .ok (.bipush (-2), 2) := by decide +kernel
theorem dX10_clear_9 : decode cX10_clear 9 = .ok (.ireturn, 1) := by decide +kernel
theorem dX10_clear_10 : decode cX10_clear 10 = .ok (.aload_n 0, 1) := by decide +kernel
theorem dX10_clear_11 : decode cX10_clear 11 = .ok (.getfield 7, 3) := by decide +kernel
theorem dX10_clear_14 : decode cX10_clear 14 = .ok (.iload_n 1, 1) := by decide +kernel
theorem dX10_clear_15 : decode cX10_clear 15 = .ok (.iaload, 1) := by decide +kernel
theorem dX10_clear_16 : decode cX10_clear 16 = .ok (.ifCond .le 7, 3) := by decide +kernel
theorem dX10_clear_19 : decode cX10_clear 19 = .ok (.iconst 1, 1) := by decide +kernel
theorem dX10_clear_20 : decode cX10_clear 20 = .ok (.goto 4, 3) := by decide +kernel
theorem dX10_clear_23 : decode cX10_clear 23 = .ok (.iconst 0, 1) := by decide +kernel
theorem dX10_clear_24 : decode cX10_clear 24 = .ok (.istore_n 2, 1) := by decide +kernel
theorem dX10_clear_25 : decode cX10_clear 25 = .ok (.aload_n 0, 1) := by decide +kernel
theorem dX10_clear_26 : decode cX10_clear 26 = .ok (.getfield 7, 3) := by decide +kernel
theorem dX10_clear_29 : decode cX10_clear 29 = .ok (.iload_n 1, 1) := by decide +kernel
theorem dX10_clear_30 : decode cX10_clear 30 = .ok (.iconst 0, 1) := by decide +kernel
theorem dX10_clear_31 : decode cX10_clear 31 = .ok (.iastore, 1) := by decide +kernel
theorem dX10_clear_32 : decode cX10_clear 32 = .ok (.iload_n 2, 1) := by decide +kernel
theorem dX10_clear_33 : decode cX10_clear 33 = .ok (.ireturn, 1) := by decide +kernel
abbrev rmX10_clear : Room := { frames := 1, cells := 0, slots := 0, locals := 20 }
theorem yd_X10_clear : yX10_clear.cls = RX10 ∧ yX10_clear.cls ≠ "java/lang/invoke/MethodHandle" ∧ yX10_clear.cls ≠ "java/lang/invoke/VarHandle" ∧ (parseMethodDescriptor yX10_clear.desc).map (fun d => d.parameters.length) = some 1 := by decide +kernel
def fX10_clear_J24 (r : RS) (l1 : Int32) (s0 : Int32) : Option (Int32 × RS) :=
  (sA r 0 16 l1 (0 : Int32)).bind fun r3 =>
  some (s0, r3)
def fX10_clear (r : RS) (a1 : Int32) : Option (Int32 × RS) :=
  (fX10_isPlace a1).bind fun q1 =>
  if q1 = 0 then
    some ((-2 : Int32), r)
  else
    (aI 16 (r.2.1 0) a1).bind fun v2 =>
    if v2 ≤ 0 then
      fX10_clear_J24 r a1 (0 : Int32)
    else
      fX10_clear_J24 r a1 (1 : Int32)
set_option maxHeartbeats 4000000 in
set_option maxRecDepth 100000 in
theorem tX10_clear (κ : KK) (l : Launch) (o : Nat) (r : RS) (a1 : Int32) (q : Int32 × RS) (h : fX10_clear r a1 = some q) : MM κ l yX10_clear cX10_clear 3 (some .int) rmX10_clear (RA o) [.ref o, .int a1] (RB κ o r) (some (Value.int q.1)) (RB κ o q.2) := by
  refine MM.of (by decide +kernel) (Nat.le_of_ble_eq_true rfl) ?_
  intro p e s m below meth c C hnm
  have J24 : ∀ (r : RS) (l1 : Int32) (s0 : Int32), fX10_clear_J24 r l1 s0 = some q → GR κ p l e s m ([.ref o, .int a1] : List Value).toArray below meth c rmX10_clear 3 o (some (Value.int q.1)) (RB κ o q.2) r 24 [(0, .ref o), (1, .int l1)] [.int s0] := by
    intro r l1 s0 h
    unfold fX10_clear_J24 at h
    refine G_istore_n (pc' := 25) C dX10_clear_24 [(2, .int s0), (0, .ref o), (1, .int l1)] (by decide) rfl rfl ?_
    refine G_aload_n (pc' := 26) C dX10_clear_25 1 rfl rfl ?_
    refine R_g_bits (pc' := 29) C dX10_clear_26 rfl ?_
    refine G_iload_n (pc' := 30) C dX10_clear_29 2 rfl rfl ?_
    refine G_iconst (pc' := 31) (v := (0 : Int32)) C dX10_clear_30 (by decide) rfl ?_
    obtain ⟨r3, hr3, h⟩ := ob h
    refine R_s_bits (pc' := 32) C dX10_clear_31 hr3 rfl ?_
    refine G_iload_n (pc' := 33) C dX10_clear_32 0 rfl rfl ?_
    obtain rfl := Option.some.inj h
    exact G_iret C dX10_clear_33 (fun _ h => h)
  unfold fX10_clear at h
  refine G_sub (lv' := [(0, .ref o), (1, .int a1)]) [0, 1] rfl ?_
  refine G_iload_n (pc' := 1) C dX10_clear_0 1 rfl rfl ?_
  obtain ⟨q1, hq1, h⟩ := ob h
  refine G_cS0 (pc' := 4) C dX10_clear_1 (tX10_isPlace κ l (RA o) (RB κ o r) a1 q1 hq1) (wS tw_ml_X10_115 tw_st_X10_isPlace tw_co_X10_isPlace tw_in_X10) yd_X10_isPlace rfl rfl rfl (by decide) rfl (Nat.le_of_ble_eq_true rfl) rfl rfl ?_
  refine G_if_ne (tgt := 10) (pc' := 7) C dX10_clear_4 (by decide) rfl (fun hc => ?_) (fun hc => ?_)
  · replace h := z_in hc h
    refine G_aload_n (pc' := 11) C dX10_clear_10 0 rfl rfl ?_
    refine R_g_bits (pc' := 14) C dX10_clear_11 rfl ?_
    refine G_iload_n (pc' := 15) C dX10_clear_14 1 rfl rfl ?_
    obtain ⟨v2, hv2, h⟩ := ob h
    refine R_l_bits (pc' := 16) C dX10_clear_15 hv2 rfl ?_
    refine G_if_le (tgt := 23) (pc' := 19) C dX10_clear_16 (by decide) rfl (fun hc => ?_) (fun hc => ?_)
    · replace h := z_ip hc h
      refine G_iconst (pc' := 24) (v := (0 : Int32)) C dX10_clear_23 (by decide) rfl ?_
      exact G_sub [0, 1] rfl (J24 r a1 (0 : Int32) h)
    · replace h := z_in hc h
      refine G_iconst (pc' := 20) (v := (1 : Int32)) C dX10_clear_19 (by decide) rfl ?_
      refine G_goto (tgt := 24) C dX10_clear_20 (by decide) ?_
      exact G_sub [0, 1] rfl (J24 r a1 (1 : Int32) h)
  · replace h := z_ip hc h
    refine G_bipush (pc' := 9) (v := (-2 : Int32)) C dX10_clear_7 (by decide) rfl ?_
    obtain rfl := Option.some.inj h
    exact G_iret C dX10_clear_9 (fun _ h => h)
theorem dX10_take_0 : decode cX10_take 0 = .ok (.aload_n 0, 1) := by decide +kernel
theorem dX10_take_1 : decode cX10_take 1 = .ok (.getfield 7, 3) := by decide +kernel
theorem dX10_take_4 : decode cX10_take 4 = .ok (.iload_n 2, 1) := by decide +kernel
theorem dX10_take_5 : decode cX10_take 5 = .ok (.aload_n 0, 1) := by decide +kernel
theorem dX10_take_6 : decode cX10_take 6 = .ok (.getfield 7, 3) := by decide +kernel
theorem dX10_take_9 : decode cX10_take 9 = .ok (.iload_n 1, 1) := by decide +kernel
theorem dX10_take_10 : decode cX10_take 10 = .ok (.iaload, 1) := by decide +kernel
theorem dX10_take_11 : decode cX10_take 11 = .ok (.iastore, 1) := by decide +kernel
theorem dX10_take_12 : decode cX10_take 12 = .ok (.aload_n 0, 1) := by decide +kernel
theorem dX10_take_13 : decode cX10_take 13 = .ok (.getfield 13, 3) := by decide +kernel
theorem dX10_take_16 : decode cX10_take 16 = .ok (.iload_n 2, 1) := by decide +kernel
theorem dX10_take_17 : decode cX10_take 17 = .ok (.aload_n 0, 1) := by decide +kernel
theorem dX10_take_18 : decode cX10_take 18 = .ok (.getfield 13, 3) := by decide +kernel
theorem dX10_take_21 : decode cX10_take 21 = .ok (.iload_n 1, 1) := by decide +kernel
theorem dX10_take_22 : decode cX10_take 22 = .ok (.iaload, 1) := by decide +kernel
theorem dX10_take_23 : decode cX10_take 23 = .ok (.iastore, 1) := by decide +kernel
theorem dX10_take_24 : decode cX10_take 24 = .ok (.aload_n 0, 1) := by decide +kernel
theorem dX10_take_25 : decode cX10_take 25 = .ok (.getfield 16, 3) := by decide +kernel
theorem dX10_take_28 : decode cX10_take 28 = .ok (.iload_n 2, 1) := by decide +kernel
theorem dX10_take_29 : decode cX10_take 29 = .ok (.aload_n 0, 1) := by decide +kernel
theorem dX10_take_30 : decode cX10_take 30 = .ok (.getfield 16, 3) := by decide +kernel
theorem dX10_take_33 : decode cX10_take 33 = .ok (.iload_n 1, 1) := by decide +kernel
theorem dX10_take_34 : decode cX10_take 34 = .ok (.iaload, 1) := by decide +kernel
theorem dX10_take_35 : decode cX10_take 35 = .ok (.iastore, 1) := by decide +kernel
theorem dX10_take_36 : decode cX10_take 36 = .ok (.iconst 0, 1) := by decide +kernel
theorem dX10_take_37 : decode cX10_take 37 = .ok (.istore_n 3, 1) := by decide +kernel
theorem dX10_take_38 : decode cX10_take 38 = .ok (.iload_n 3, 1) := by decide +kernel
theorem dX10_take_39 : decode cX10_take 39 = .ok (.sipush 256, 3) := by decide +kernel
theorem dX10_take_42 : decode cX10_take 42 = .ok (.if_icmp .ge 33, 3) := by decide +kernel
theorem dX10_take_45 : decode cX10_take 45 = .ok (.aload_n 0, 1) := by decide +kernel
theorem dX10_take_46 : decode cX10_take 46 = .ok (.getfield 19, 3) := by decide +kernel
theorem dX10_take_49 : decode cX10_take 49 = .ok (.sipush 256, 3) := by decide +kernel
theorem dX10_take_52 : decode cX10_take 52 = .ok (.iload_n 2, 1) := by decide +kernel
theorem dX10_take_53 : decode cX10_take 53 = .ok (.imul, 1) := by decide +kernel
theorem dX10_take_54 : decode cX10_take 54 = .ok (.iload_n 3, 1) := by decide +kernel
theorem dX10_take_55 : decode cX10_take 55 = .ok (.iadd, 1) := by decide +kernel
theorem dX10_take_56 : decode cX10_take 56 = .ok (.aload_n 0, 1) := by decide +kernel
theorem dX10_take_57 : decode cX10_take 57 = .ok (.getfield 19, 3) := by decide +kernel
theorem dX10_take_60 : decode cX10_take 60 = .ok (.sipush 256, 3) := by decide +kernel
theorem dX10_take_63 : decode cX10_take 63 = .ok (.iload_n 1, 1) := by decide +kernel
theorem dX10_take_64 : decode cX10_take 64 = .ok (.imul, 1) := by decide +kernel
theorem dX10_take_65 : decode cX10_take 65 = .ok (.iload_n 3, 1) := by decide +kernel
theorem dX10_take_66 : decode cX10_take 66 = .ok (.iadd, 1) := by decide +kernel
theorem dX10_take_67 : decode cX10_take 67 = .ok (.iaload, 1) := by decide +kernel
theorem dX10_take_68 : decode cX10_take 68 = .ok (.iastore, 1) := by decide +kernel
theorem dX10_take_69 : decode cX10_take 69 = .ok (.iinc 3 1, 3) := by decide +kernel
theorem dX10_take_72 : decode cX10_take 72 = .ok (.goto (-34), 3) := by decide +kernel
theorem dX10_take_75 : decode cX10_take 75 = .ok (.return_, 1) := by decide +kernel
abbrev rmX10_take : Room := { frames := 0, cells := 0, slots := 0, locals := 0 }
theorem yd_X10_take : yX10_take.cls = RX10 ∧ yX10_take.cls ≠ "java/lang/invoke/MethodHandle" ∧ yX10_take.cls ≠ "java/lang/invoke/VarHandle" ∧ (parseMethodDescriptor yX10_take.desc).map (fun d => d.parameters.length) = some 2 := by decide +kernel
def fX10_take_L38 (r : RS) (l1 : Int32) (l2 : Int32) (l3 : Int32) : Option ((Int32 × RS) ⊕ RS) :=
  if (256 : Int32) ≤ l3 then
    some (.inr r)
  else
    (aI 4096 (r.2.1 3) (((256 : Int32) * l1) + l3)).bind fun v7 =>
    (sA r 3 4096 (((256 : Int32) * l2) + l3) v7).bind fun r8 =>
    some (.inl ((l3 + (1 : Int32)), r8))
def fX10_take (r : RS) (a1 : Int32) (a2 : Int32) : Option (RS) :=
  (aI 16 (r.2.1 0) a1).bind fun v1 =>
  (sA r 0 16 a2 v1).bind fun r2 =>
  (aI 16 (r2.2.1 1) a1).bind fun v3 =>
  (sA r2 1 16 a2 v3).bind fun r4 =>
  (aI 16 (r4.2.1 2) a1).bind fun v5 =>
  (sA r4 2 16 a2 v5).bind fun r6 =>
  (lpN (fun u => fX10_take_L38 u.2 a1 a2 u.1) bigN ((0 : Int32), r6)).bind fun e9 =>
  some e9
set_option maxHeartbeats 4000000 in
set_option maxRecDepth 100000 in
theorem tX10_take_L38 {κ : KK} {p : Program} {l : Launch} {e : Env} {s : State} {m : MethodId} {args : Array Value} {below : List Frame} {meth : Method} {c : Code} (C : Cx κ p s m args meth c cX10_take 4 RX10 none) {o : Nat} {v : Option Value} {B' : Heap → Prop} {r : RS} {l1 : Int32} {l2 : Int32} {l3 : Int32} {y : (Int32 × RS) ⊕ RS} (h : fX10_take_L38 r l1 l2 l3 = some y) (kc : ∀ u, y = .inl u → GR κ p l e s m args below meth c rmX10_take 4 o v B' u.2 38 [(0, .ref o), (1, .int l1), (2, .int l2), (3, .int u.1)] []) (kx : ∀ w, y = .inr w → GR κ p l e s m args below meth c rmX10_take 4 o v B' w 75 [] []) : GR κ p l e s m args below meth c rmX10_take 4 o v B' r 38 [(0, .ref o), (1, .int l1), (2, .int l2), (3, .int l3)] [] := by
  unfold fX10_take_L38 at h
  refine G_iload_n (pc' := 39) C dX10_take_38 3 rfl rfl ?_
  refine G_sipush (pc' := 42) (v := (256 : Int32)) C dX10_take_39 (by decide) rfl ?_
  refine G_icmp_ge (tgt := 75) (pc' := 45) C dX10_take_42 (by decide) rfl (fun hc => ?_) (fun hc => ?_)
  · replace h := z_ip hc h
    exact G_sub [] rfl (kx _ (Option.some.inj h).symm)
  · replace h := z_in hc h
    refine G_aload_n (pc' := 46) C dX10_take_45 0 rfl rfl ?_
    refine R_g_says (pc' := 49) C dX10_take_46 rfl ?_
    refine G_sipush (pc' := 52) (v := (256 : Int32)) C dX10_take_49 (by decide) rfl ?_
    refine G_iload_n (pc' := 53) C dX10_take_52 2 rfl rfl ?_
    refine G_imul (pc' := 54) C dX10_take_53 rfl ?_
    refine G_iload_n (pc' := 55) C dX10_take_54 3 rfl rfl ?_
    refine G_iadd (pc' := 56) C dX10_take_55 rfl ?_
    refine G_aload_n (pc' := 57) C dX10_take_56 0 rfl rfl ?_
    refine R_g_says (pc' := 60) C dX10_take_57 rfl ?_
    refine G_sipush (pc' := 63) (v := (256 : Int32)) C dX10_take_60 (by decide) rfl ?_
    refine G_iload_n (pc' := 64) C dX10_take_63 1 rfl rfl ?_
    refine G_imul (pc' := 65) C dX10_take_64 rfl ?_
    refine G_iload_n (pc' := 66) C dX10_take_65 3 rfl rfl ?_
    refine G_iadd (pc' := 67) C dX10_take_66 rfl ?_
    obtain ⟨v7, hv7, h⟩ := ob h
    refine R_l_says (pc' := 68) C dX10_take_67 hv7 rfl ?_
    obtain ⟨r8, hr8, h⟩ := ob h
    refine R_s_says (pc' := 69) C dX10_take_68 hr8 rfl ?_
    refine G_iinc (pc' := 72) C dX10_take_69 3 rfl rfl [(3, .int (l3 + (1 : Int32))), (0, .ref o), (1, .int l1), (2, .int l2)] (by decide) rfl rfl ?_
    refine G_goto (tgt := 38) C dX10_take_72 (by decide) ?_
    exact G_sub [1, 2, 3, 0] rfl (kc _ (Option.some.inj h).symm)
set_option maxHeartbeats 4000000 in
set_option maxRecDepth 100000 in
theorem tX10_take (κ : KK) (l : Launch) (o : Nat) (r : RS) (a1 : Int32) (a2 : Int32) (q : RS) (h : fX10_take r a1 a2 = some q) : MM κ l yX10_take cX10_take 4 none rmX10_take (RA o) [.ref o, .int a1, .int a2] (RB κ o r) none (RB κ o q) := by
  refine MM.of (by decide +kernel) (Nat.le_of_ble_eq_true rfl) ?_
  intro p e s m below meth c C hnm
  unfold fX10_take at h
  refine G_sub (lv' := [(0, .ref o), (1, .int a1), (2, .int a2)]) [0, 1, 2] rfl ?_
  refine G_aload_n (pc' := 1) C dX10_take_0 0 rfl rfl ?_
  refine R_g_bits (pc' := 4) C dX10_take_1 rfl ?_
  refine G_iload_n (pc' := 5) C dX10_take_4 2 rfl rfl ?_
  refine G_aload_n (pc' := 6) C dX10_take_5 0 rfl rfl ?_
  refine R_g_bits (pc' := 9) C dX10_take_6 rfl ?_
  refine G_iload_n (pc' := 10) C dX10_take_9 1 rfl rfl ?_
  obtain ⟨v1, hv1, h⟩ := ob h
  refine R_l_bits (pc' := 11) C dX10_take_10 hv1 rfl ?_
  obtain ⟨r2, hr2, h⟩ := ob h
  refine R_s_bits (pc' := 12) C dX10_take_11 hr2 rfl ?_
  refine G_aload_n (pc' := 13) C dX10_take_12 0 rfl rfl ?_
  refine R_g_kind (pc' := 16) C dX10_take_13 rfl ?_
  refine G_iload_n (pc' := 17) C dX10_take_16 2 rfl rfl ?_
  refine G_aload_n (pc' := 18) C dX10_take_17 0 rfl rfl ?_
  refine R_g_kind (pc' := 21) C dX10_take_18 rfl ?_
  refine G_iload_n (pc' := 22) C dX10_take_21 1 rfl rfl ?_
  obtain ⟨v3, hv3, h⟩ := ob h
  refine R_l_kind (pc' := 23) C dX10_take_22 hv3 rfl ?_
  obtain ⟨r4, hr4, h⟩ := ob h
  refine R_s_kind (pc' := 24) C dX10_take_23 hr4 rfl ?_
  refine G_aload_n (pc' := 25) C dX10_take_24 0 rfl rfl ?_
  refine R_g_putWorth (pc' := 28) C dX10_take_25 rfl ?_
  refine G_iload_n (pc' := 29) C dX10_take_28 2 rfl rfl ?_
  refine G_aload_n (pc' := 30) C dX10_take_29 0 rfl rfl ?_
  refine R_g_putWorth (pc' := 33) C dX10_take_30 rfl ?_
  refine G_iload_n (pc' := 34) C dX10_take_33 1 rfl rfl ?_
  obtain ⟨v5, hv5, h⟩ := ob h
  refine R_l_putWorth (pc' := 35) C dX10_take_34 hv5 rfl ?_
  obtain ⟨r6, hr6, h⟩ := ob h
  refine R_s_putWorth (pc' := 36) C dX10_take_35 hr6 rfl ?_
  refine G_iconst (pc' := 37) (v := (0 : Int32)) C dX10_take_36 (by decide) rfl ?_
  refine G_istore_n (pc' := 38) C dX10_take_37 [(3, .int (0 : Int32)), (0, .ref o), (1, .int a1), (2, .int a2)] (by decide) rfl rfl ?_
  obtain ⟨e9, hle9, h⟩ := ob h
  refine G_sub (lv' := [(0, .ref o), (1, .int a1), (2, .int a2), (3, .int (0 : Int32))]) [1, 2, 3, 0] rfl ?_
  refine lpN_ind (P := fun u => GR κ p l e s m ([.ref o, .int a1, .int a2] : List Value).toArray below meth c rmX10_take 4 o none (RB κ o q) u.2 38 [(0, .ref o), (1, .int a1), (2, .int a2), (3, .int u.1)] []) (X := fun w => GR κ p l e s m ([.ref o, .int a1, .int a2] : List Value).toArray below meth c rmX10_take 4 o none (RB κ o q) w 75 [] []) (fun u y hb kc kx => tX10_take_L38 C hb kc kx) _ _ _ hle9 ?_
  obtain rfl := Option.some.inj h
  exact G_vret C dX10_take_75 (fun _ h => h)
theorem dX10_move_0 : decode cX10_move 0 = .ok (.iload_n 1, 1) := by decide +kernel
theorem dX10_move_1 : decode cX10_move 1 = .ok (.invokestatic 115, 3) := by decide +kernel
theorem dX10_move_4 : decode cX10_move 4 = .ok (.ifCond .eq 10, 3) := by decide +kernel
theorem dX10_move_7 : decode cX10_move 7 = .ok (.iload_n 2, 1) := by decide +kernel
theorem dX10_move_8 : decode cX10_move 8 = .ok (.invokestatic 115, 3) := by decide +kernel
theorem dX10_move_11 : decode cX10_move 11 = .ok (.ifCond .ne 6, 3) := by decide +kernel
theorem dX10_move_14 : decode cX10_move 14 = .ok (.bipush (-2), 2) := by decide +kernel
theorem dX10_move_16 : decode cX10_move 16 = .ok (.ireturn, 1) := by decide +kernel
theorem dX10_move_17 : decode cX10_move 17 = .ok (.aload_n 0, 1) := by decide +kernel
theorem dX10_move_18 : decode cX10_move 18 = .ok (.getfield 7, 3) := by decide +kernel
theorem dX10_move_21 : decode cX10_move 21 = .ok (.iload_n 1, 1) := by decide +kernel
theorem dX10_move_22 : decode cX10_move 22 = .ok (.iaload, 1) := by decide +kernel
theorem dX10_move_23 : decode cX10_move 23 = .ok (.ifCond .ne 10, 3) := by decide +kernel
theorem dX10_move_26 : decode cX10_move 26 = .ok (.aload_n 0, 1) := by decide +kernel
theorem dX10_move_27 : decode cX10_move 27 = .ok (.bipush (-10), 2) := by decide +kernel
theorem dX10_move_29 : decode cX10_move 29 = .ok (.invokevirtual 136, 3) := by decide +kernel
theorem dX10_move_32 : decode cX10_move 32 = .ok (.ireturn, 1) := by decide +kernel
theorem dX10_move_33 : decode cX10_move 33 = .ok (.aload_n 0, 1) := by decide +kernel
theorem dX10_move_34 : decode cX10_move 34 = .ok (.iload_n 1, 1) := by decide +kernel
theorem dX10_move_35 : decode cX10_move 35 = .ok (.iload_n 2, 1) := by decide +kernel
theorem dX10_move_36 : decode cX10_move 36 = .ok (.invokevirtual 155, 3) := by decide +kernel
theorem dX10_move_39 : decode cX10_move 39 = .ok (.aload_n 0, 1) := by decide +kernel
theorem dX10_move_40 : decode cX10_move 40 = .ok (.getfield 7, 3) := by decide +kernel
theorem dX10_move_43 : decode cX10_move 43 = .ok (.iload_n 2, 1) := by decide +kernel
theorem dX10_move_44 : decode cX10_move 44 = .ok (.iaload, 1) := by decide +kernel
theorem dX10_move_45 : decode cX10_move 45 = .ok (.ireturn, 1) := by decide +kernel
abbrev rmX10_move : Room := { frames := 1, cells := 0, slots := 0, locals := 23 }
theorem yd_X10_move : yX10_move.cls = RX10 ∧ yX10_move.cls ≠ "java/lang/invoke/MethodHandle" ∧ yX10_move.cls ≠ "java/lang/invoke/VarHandle" ∧ (parseMethodDescriptor yX10_move.desc).map (fun d => d.parameters.length) = some 2 := by decide +kernel
def fX10_move_J14 (r : RS) : Option (Int32 × RS) :=
  some ((-2 : Int32), r)
def fX10_move (r : RS) (a1 : Int32) (a2 : Int32) : Option (Int32 × RS) :=
  (fX10_isPlace a1).bind fun q1 =>
  if q1 = 0 then
    fX10_move_J14 r
  else
    (fX10_isPlace a2).bind fun q2 =>
    if q2 = 0 then
      fX10_move_J14 r
    else
      (aI 16 (r.2.1 0) a1).bind fun v3 =>
      if v3 = 0 then
        (fX10_meet r (-10 : Int32)).bind fun q6 =>
        some (q6.1, q6.2)
      else
        (fX10_take r a1 a2).bind fun q4 =>
        (aI 16 (q4.2.1 0) a2).bind fun v5 =>
        some (v5, q4)
set_option maxHeartbeats 4000000 in
set_option maxRecDepth 100000 in
theorem tX10_move (κ : KK) (l : Launch) (o : Nat) (r : RS) (a1 : Int32) (a2 : Int32) (q : Int32 × RS) (h : fX10_move r a1 a2 = some q) : MM κ l yX10_move cX10_move 3 (some .int) rmX10_move (RA o) [.ref o, .int a1, .int a2] (RB κ o r) (some (Value.int q.1)) (RB κ o q.2) := by
  refine MM.of (by decide +kernel) (Nat.le_of_ble_eq_true rfl) ?_
  intro p e s m below meth c C hnm
  have J14 : ∀ (r : RS), fX10_move_J14 r = some q → GR κ p l e s m ([.ref o, .int a1, .int a2] : List Value).toArray below meth c rmX10_move 3 o (some (Value.int q.1)) (RB κ o q.2) r 14 [] [] := by
    intro r h
    unfold fX10_move_J14 at h
    refine G_bipush (pc' := 16) (v := (-2 : Int32)) C dX10_move_14 (by decide) rfl ?_
    obtain rfl := Option.some.inj h
    exact G_iret C dX10_move_16 (fun _ h => h)
  unfold fX10_move at h
  refine G_sub (lv' := [(0, .ref o), (1, .int a1), (2, .int a2)]) [0, 1, 2] rfl ?_
  refine G_iload_n (pc' := 1) C dX10_move_0 1 rfl rfl ?_
  obtain ⟨q1, hq1, h⟩ := ob h
  refine G_cS0 (pc' := 4) C dX10_move_1 (tX10_isPlace κ l (RA o) (RB κ o r) a1 q1 hq1) (wS tw_ml_X10_115 tw_st_X10_isPlace tw_co_X10_isPlace tw_in_X10) yd_X10_isPlace rfl rfl rfl (by decide) rfl (Nat.le_of_ble_eq_true rfl) rfl rfl ?_
  refine G_if_eq (tgt := 14) (pc' := 7) C dX10_move_4 (by decide) rfl (fun hc => ?_) (fun hc => ?_)
  · replace h := z_ip hc h
    exact G_sub [] rfl (J14 r h)
  · replace h := z_in hc h
    refine G_iload_n (pc' := 8) C dX10_move_7 2 rfl rfl ?_
    obtain ⟨q2, hq2, h⟩ := ob h
    refine G_cS0 (pc' := 11) C dX10_move_8 (tX10_isPlace κ l (RA o) (RB κ o r) a2 q2 hq2) (wS tw_ml_X10_115 tw_st_X10_isPlace tw_co_X10_isPlace tw_in_X10) yd_X10_isPlace rfl rfl rfl (by decide) rfl (Nat.le_of_ble_eq_true rfl) rfl rfl ?_
    refine G_if_ne (tgt := 17) (pc' := 14) C dX10_move_11 (by decide) rfl (fun hc => ?_) (fun hc => ?_)
    · replace h := z_in hc h
      refine G_aload_n (pc' := 18) C dX10_move_17 0 rfl rfl ?_
      refine R_g_bits (pc' := 21) C dX10_move_18 rfl ?_
      refine G_iload_n (pc' := 22) C dX10_move_21 1 rfl rfl ?_
      obtain ⟨v3, hv3, h⟩ := ob h
      refine R_l_bits (pc' := 23) C dX10_move_22 hv3 rfl ?_
      refine G_if_ne (tgt := 33) (pc' := 26) C dX10_move_23 (by decide) rfl (fun hc => ?_) (fun hc => ?_)
      · replace h := z_in hc h
        refine G_aload_n (pc' := 34) C dX10_move_33 0 rfl rfl ?_
        refine G_iload_n (pc' := 35) C dX10_move_34 1 rfl rfl ?_
        refine G_iload_n (pc' := 36) C dX10_move_35 2 rfl rfl ?_
        obtain ⟨q4, hq4, h⟩ := ob h
        refine G_cV0 (pc' := 39) C dX10_move_36 (tX10_take κ l o r a1 a2 q4 hq4) (wV tw_ml_X10_155 tw_im_X10_take tw_se_X10_X10_take tw_in_X10 tw_co_X10_take) yd_X10_take rfl fi_X10 (RB_rd 0 rfl) rfl rfl (by decide) rfl (Nat.le_of_ble_eq_true rfl) rfl rfl ?_
        refine G_aload_n (pc' := 40) C dX10_move_39 0 rfl rfl ?_
        refine R_g_bits (pc' := 43) C dX10_move_40 rfl ?_
        refine G_iload_n (pc' := 44) C dX10_move_43 2 rfl rfl ?_
        obtain ⟨v5, hv5, h⟩ := ob h
        refine R_l_bits (pc' := 45) C dX10_move_44 hv5 rfl ?_
        obtain rfl := Option.some.inj h
        exact G_iret C dX10_move_45 (fun _ h => h)
      · replace h := z_ip hc h
        refine G_aload_n (pc' := 27) C dX10_move_26 0 rfl rfl ?_
        refine G_bipush (pc' := 29) (v := (-10 : Int32)) C dX10_move_27 (by decide) rfl ?_
        obtain ⟨q6, hq6, h⟩ := ob h
        refine G_cV0 (pc' := 32) C dX10_move_29 (tX10_meet κ l o r (-10 : Int32) q6 hq6) (wV tw_ml_X10_136 tw_im_X10_meet tw_se_X10_X10_meet tw_in_X10 tw_co_X10_meet) yd_X10_meet rfl fi_X10 (RB_rd 0 rfl) rfl rfl (by decide) rfl (Nat.le_of_ble_eq_true rfl) rfl rfl ?_
        obtain rfl := Option.some.inj h
        exact G_iret C dX10_move_32 (fun _ h => h)
    · replace h := z_ip hc h
      exact G_sub [] rfl (J14 r h)
theorem dX10_tell_0 : decode cX10_tell 0 = .ok (.aload_n 0, 1) := by decide +kernel
theorem dX10_tell_1 : decode cX10_tell 1 = .ok (.getfield 159, 3) := by decide +kernel
theorem dX10_tell_4 : decode cX10_tell 4 = .ok (.bipush 100, 2) := by decide +kernel
theorem dX10_tell_6 : decode cX10_tell 6 = .ok (.if_icmp .ne 6, 3) := by decide +kernel
theorem dX10_tell_9 : decode cX10_tell 9 = .ok (.bipush (-2), 2) := by decide +kernel
theorem dX10_tell_11 : decode cX10_tell 11 = .ok (.ireturn, 1) := by decide +kernel
theorem dX10_tell_12 : decode cX10_tell 12 = .ok (.aload_n 0, 1) := by decide +kernel
theorem dX10_tell_13 : decode cX10_tell 13 = .ok (.getfield 32, 3) := by decide +kernel
theorem dX10_tell_16 : decode cX10_tell 16 = .ok (.aload_n 0, 1) := by decide +kernel
theorem dX10_tell_17 : decode cX10_tell 17 = .ok (.getfield 159, 3) := by decide +kernel
theorem dX10_tell_20 : decode cX10_tell 20 = .ok (.iload_n 1, 1) := by decide +kernel
theorem dX10_tell_21 : decode cX10_tell 21 = .ok (.iastore, 1) := by decide +kernel
theorem dX10_tell_22 : decode cX10_tell 22 = .ok (.aload_n 0, 1) := by decide +kernel
theorem dX10_tell_23 : decode cX10_tell 23 = .ok (.dup, 1) := by decide +kernel
theorem dX10_tell_24 : decode cX10_tell 24 = .ok (.getfield 159, 3) := by decide +kernel
theorem dX10_tell_27 : decode cX10_tell 27 = .ok (.iconst 1, 1) := by decide +kernel
theorem dX10_tell_28 : decode cX10_tell 28 = .ok (.iadd, 1) := by decide +kernel
theorem dX10_tell_29 : decode cX10_tell 29 = .ok (.putfield 159, 3) := by decide +kernel
theorem dX10_tell_32 : decode cX10_tell 32 = .ok (.aload_n 0, 1) := by decide +kernel
theorem dX10_tell_33 : decode cX10_tell 33 = .ok (.getfield 159, 3) := by decide +kernel
theorem dX10_tell_36 : decode cX10_tell 36 = .ok (.ireturn, 1) := by decide +kernel
abbrev rmX10_tell : Room := { frames := 0, cells := 0, slots := 0, locals := 0 }
theorem yd_X10_tell : yX10_tell.cls = RX10 ∧ yX10_tell.cls ≠ "java/lang/invoke/MethodHandle" ∧ yX10_tell.cls ≠ "java/lang/invoke/VarHandle" ∧ (parseMethodDescriptor yX10_tell.desc).map (fun d => d.parameters.length) = some 1 := by decide +kernel
def fX10_tell (r : RS) (a1 : Int32) : Option (Int32 × RS) :=
  if (r.1 1) = (100 : Int32) then
    some ((-2 : Int32), r)
  else
    (sA r 7 100 (r.1 1) a1).bind fun r1 =>
    some (((rI r1 1 ((r1.1 1) + (1 : Int32))).1 1), (rI r1 1 ((r1.1 1) + (1 : Int32))))
set_option maxHeartbeats 4000000 in
set_option maxRecDepth 100000 in
theorem tX10_tell (κ : KK) (l : Launch) (o : Nat) (r : RS) (a1 : Int32) (q : Int32 × RS) (h : fX10_tell r a1 = some q) : MM κ l yX10_tell cX10_tell 2 (some .int) rmX10_tell (RA o) [.ref o, .int a1] (RB κ o r) (some (Value.int q.1)) (RB κ o q.2) := by
  refine MM.of (by decide +kernel) (Nat.le_of_ble_eq_true rfl) ?_
  intro p e s m below meth c C hnm
  unfold fX10_tell at h
  refine G_sub (lv' := [(0, .ref o), (1, .int a1)]) [0, 1] rfl ?_
  refine G_aload_n (pc' := 1) C dX10_tell_0 0 rfl rfl ?_
  refine R_g_waits (pc' := 4) C dX10_tell_1 rfl ?_
  refine G_bipush (pc' := 6) (v := (100 : Int32)) C dX10_tell_4 (by decide) rfl ?_
  refine G_icmp_ne (tgt := 12) (pc' := 9) C dX10_tell_6 (by decide) rfl (fun hc => ?_) (fun hc => ?_)
  · replace h := z_in hc h
    refine G_aload_n (pc' := 13) C dX10_tell_12 0 rfl rfl ?_
    refine R_g_waiting (pc' := 16) C dX10_tell_13 rfl ?_
    refine G_aload_n (pc' := 17) C dX10_tell_16 0 rfl rfl ?_
    refine R_g_waits (pc' := 20) C dX10_tell_17 rfl ?_
    refine G_iload_n (pc' := 21) C dX10_tell_20 1 rfl rfl ?_
    obtain ⟨r1, hr1, h⟩ := ob h
    refine R_s_waiting (pc' := 22) C dX10_tell_21 hr1 rfl ?_
    refine G_aload_n (pc' := 23) C dX10_tell_22 0 rfl rfl ?_
    refine G_dup (pc' := 24) C dX10_tell_23 rfl rfl ?_
    refine R_g_waits (pc' := 27) C dX10_tell_24 rfl ?_
    refine G_iconst (pc' := 28) (v := (1 : Int32)) C dX10_tell_27 (by decide) rfl ?_
    refine G_iadd (pc' := 29) C dX10_tell_28 rfl ?_
    refine R_p_waits (pc' := 32) C dX10_tell_29 rfl ?_
    refine G_aload_n (pc' := 33) C dX10_tell_32 0 rfl rfl ?_
    refine R_g_waits (pc' := 36) C dX10_tell_33 rfl ?_
    obtain rfl := Option.some.inj h
    exact G_iret C dX10_tell_36 (fun _ h => h)
  · replace h := z_ip hc h
    refine G_bipush (pc' := 11) (v := (-2 : Int32)) C dX10_tell_9 (by decide) rfl ?_
    obtain rfl := Option.some.inj h
    exact G_iret C dX10_tell_11 (fun _ h => h)
theorem dX10_lay_0 : decode cX10_lay 0 = .ok (.aload_n 0, 1) := by decide +kernel
theorem dX10_lay_1 : decode cX10_lay 1 = .ok (.getfield 7, 3) := by decide +kernel
theorem dX10_lay_4 : decode cX10_lay 4 = .ok (.iload_n 1, 1) := by decide +kernel
theorem dX10_lay_5 : decode cX10_lay 5 = .ok (.iload_n 2, 1) := by decide +kernel
theorem dX10_lay_6 : decode cX10_lay 6 = .ok (.iastore, 1) := by decide +kernel
theorem dX10_lay_7 : decode cX10_lay 7 = .ok (.aload_n 0, 1) := by decide +kernel
theorem dX10_lay_8 : decode cX10_lay 8 = .ok (.getfield 13, 3) := by decide +kernel
theorem dX10_lay_11 : decode cX10_lay 11 = .ok (.iload_n 1, 1) := by decide +kernel
theorem dX10_lay_12 : decode cX10_lay 12 = .ok (.iload_n 3, 1) := by decide +kernel
theorem dX10_lay_13 : decode cX10_lay 13 = .ok (.iastore, 1) := by decide +kernel
theorem dX10_lay_14 : decode cX10_lay 14 = .ok (.aload_n 0, 1) := by decide +kernel
theorem dX10_lay_15 : decode cX10_lay 15 = .ok (.getfield 16, 3) := by decide +kernel
theorem dX10_lay_18 : decode cX10_lay 18 = .ok (.iload_n 1, 1) := by decide +kernel
theorem dX10_lay_19 : decode cX10_lay 19 = .ok (.iload 4, 2) := by decide +kernel
theorem dX10_lay_21 : decode cX10_lay 21 = .ok (.iastore, 1) := by decide +kernel
theorem dX10_lay_22 : decode cX10_lay 22 = .ok (.iconst 0, 1) := by decide +kernel
theorem dX10_lay_23 : decode cX10_lay 23 = .ok (.istore 5, 2) := by decide +kernel
theorem dX10_lay_25 : decode cX10_lay 25 = .ok (.iload 5, 2) := by decide +kernel
theorem dX10_lay_27 : decode cX10_lay 27 = .ok (.iconst 1, 1) := by decide +kernel
theorem dX10_lay_28 : decode cX10_lay 28 = .ok (.iload_n 2, 1) := by decide +kernel
theorem dX10_lay_29 : decode cX10_lay 29 = .ok (.ishl, 1) := by decide +kernel
theorem dX10_lay_30 : decode cX10_lay 30 = .ok (.if_icmp .ge 29, 3) := by decide +kernel
theorem dX10_lay_33 : decode cX10_lay 33 = .ok (.aload_n 0, 1) := by decide +kernel
theorem dX10_lay_34 : decode cX10_lay 34 = .ok (.getfield 19, 3) := by decide +kernel
theorem dX10_lay_37 : decode cX10_lay 37 = .ok (.sipush 256, 3) := by decide +kernel
theorem dX10_lay_40 : decode cX10_lay 40 = .ok (.iload_n 1, 1) := by decide +kernel
theorem dX10_lay_41 : decode cX10_lay 41 = .ok (.imul, 1) := by decide +kernel
theorem dX10_lay_42 : decode cX10_lay 42 = .ok (.iload 5, 2) := by decide +kernel
theorem dX10_lay_44 : decode cX10_lay 44 = .ok (.iadd, 1) := by decide +kernel
theorem dX10_lay_45 : decode cX10_lay 45 = .ok (.aload_n 0, 1) := by decide +kernel
theorem dX10_lay_46 : decode cX10_lay 46 = .ok (.getfield 45, 3) := by decide +kernel
theorem dX10_lay_49 : decode cX10_lay 49 = .ok (.iload 5, 2) := by decide +kernel
theorem dX10_lay_51 : decode cX10_lay 51 = .ok (.iaload, 1) := by decide +kernel
theorem dX10_lay_52 : decode cX10_lay 52 = .ok (.iastore, 1) := by decide +kernel
theorem dX10_lay_53 : decode cX10_lay 53 = .ok (.iinc 5 1, 3) := by decide +kernel
theorem dX10_lay_56 : decode cX10_lay 56 = .ok (.goto (-31), 3) := by decide +kernel
theorem dX10_lay_59 : decode cX10_lay 59 = .ok (.return_, 1) := by decide +kernel
abbrev rmX10_lay : Room := { frames := 0, cells := 0, slots := 0, locals := 0 }
theorem yd_X10_lay : yX10_lay.cls = RX10 ∧ yX10_lay.cls ≠ "java/lang/invoke/MethodHandle" ∧ yX10_lay.cls ≠ "java/lang/invoke/VarHandle" ∧ (parseMethodDescriptor yX10_lay.desc).map (fun d => d.parameters.length) = some 4 := by decide +kernel
def fX10_lay_L25 (r : RS) (l1 : Int32) (l2 : Int32) (l5 : Int32) : Option ((Int32 × RS) ⊕ RS) :=
  if ((1 : Int32) <<< (l2 &&& 31)) ≤ l5 then
    some (.inr r)
  else
    (aI 256 (r.2.1 9) l5).bind fun v4 =>
    (sA r 3 4096 (((256 : Int32) * l1) + l5) v4).bind fun r5 =>
    some (.inl ((l5 + (1 : Int32)), r5))
def fX10_lay (r : RS) (a1 : Int32) (a2 : Int32) (a3 : Int32) (a4 : Int32) : Option (RS) :=
  (sA r 0 16 a1 a2).bind fun r1 =>
  (sA r1 1 16 a1 a3).bind fun r2 =>
  (sA r2 2 16 a1 a4).bind fun r3 =>
  (lpN (fun u => fX10_lay_L25 u.2 a1 a2 u.1) bigN ((0 : Int32), r3)).bind fun e6 =>
  some e6
set_option maxHeartbeats 4000000 in
set_option maxRecDepth 100000 in
theorem tX10_lay_L25 {κ : KK} {p : Program} {l : Launch} {e : Env} {s : State} {m : MethodId} {args : Array Value} {below : List Frame} {meth : Method} {c : Code} (C : Cx κ p s m args meth c cX10_lay 6 RX10 none) {o : Nat} {v : Option Value} {B' : Heap → Prop} {r : RS} {l1 : Int32} {l2 : Int32} {l5 : Int32} {y : (Int32 × RS) ⊕ RS} (h : fX10_lay_L25 r l1 l2 l5 = some y) (kc : ∀ u, y = .inl u → GR κ p l e s m args below meth c rmX10_lay 6 o v B' u.2 25 [(0, .ref o), (1, .int l1), (2, .int l2), (5, .int u.1)] []) (kx : ∀ w, y = .inr w → GR κ p l e s m args below meth c rmX10_lay 6 o v B' w 59 [] []) : GR κ p l e s m args below meth c rmX10_lay 6 o v B' r 25 [(0, .ref o), (1, .int l1), (2, .int l2), (5, .int l5)] [] := by
  unfold fX10_lay_L25 at h
  refine G_iload (pc' := 27) C dX10_lay_25 3 rfl rfl ?_
  refine G_iconst (pc' := 28) (v := (1 : Int32)) C dX10_lay_27 (by decide) rfl ?_
  refine G_iload_n (pc' := 29) C dX10_lay_28 2 rfl rfl ?_
  refine G_ishl (pc' := 30) C dX10_lay_29 rfl ?_
  refine G_icmp_ge (tgt := 59) (pc' := 33) C dX10_lay_30 (by decide) rfl (fun hc => ?_) (fun hc => ?_)
  · replace h := z_ip hc h
    exact G_sub [] rfl (kx _ (Option.some.inj h).symm)
  · replace h := z_in hc h
    refine G_aload_n (pc' := 34) C dX10_lay_33 0 rfl rfl ?_
    refine R_g_says (pc' := 37) C dX10_lay_34 rfl ?_
    refine G_sipush (pc' := 40) (v := (256 : Int32)) C dX10_lay_37 (by decide) rfl ?_
    refine G_iload_n (pc' := 41) C dX10_lay_40 1 rfl rfl ?_
    refine G_imul (pc' := 42) C dX10_lay_41 rfl ?_
    refine G_iload (pc' := 44) C dX10_lay_42 3 rfl rfl ?_
    refine G_iadd (pc' := 45) C dX10_lay_44 rfl ?_
    refine G_aload_n (pc' := 46) C dX10_lay_45 0 rfl rfl ?_
    refine R_g_made (pc' := 49) C dX10_lay_46 rfl ?_
    refine G_iload (pc' := 51) C dX10_lay_49 3 rfl rfl ?_
    obtain ⟨v4, hv4, h⟩ := ob h
    refine R_l_made (pc' := 52) C dX10_lay_51 hv4 rfl ?_
    obtain ⟨r5, hr5, h⟩ := ob h
    refine R_s_says (pc' := 53) C dX10_lay_52 hr5 rfl ?_
    refine G_iinc (pc' := 56) C dX10_lay_53 3 rfl rfl [(5, .int (l5 + (1 : Int32))), (0, .ref o), (1, .int l1), (2, .int l2)] (by decide) rfl rfl ?_
    refine G_goto (tgt := 25) C dX10_lay_56 (by decide) ?_
    exact G_sub [1, 2, 3, 0] rfl (kc _ (Option.some.inj h).symm)
set_option maxHeartbeats 4000000 in
set_option maxRecDepth 100000 in
theorem tX10_lay (κ : KK) (l : Launch) (o : Nat) (r : RS) (a1 : Int32) (a2 : Int32) (a3 : Int32) (a4 : Int32) (q : RS) (h : fX10_lay r a1 a2 a3 a4 = some q) : MM κ l yX10_lay cX10_lay 6 none rmX10_lay (RA o) [.ref o, .int a1, .int a2, .int a3, .int a4] (RB κ o r) none (RB κ o q) := by
  refine MM.of (by decide +kernel) (Nat.le_of_ble_eq_true rfl) ?_
  intro p e s m below meth c C hnm
  unfold fX10_lay at h
  refine G_sub (lv' := [(0, .ref o), (1, .int a1), (2, .int a2), (3, .int a3), (4, .int a4)]) [0, 1, 2, 3, 4] rfl ?_
  refine G_aload_n (pc' := 1) C dX10_lay_0 0 rfl rfl ?_
  refine R_g_bits (pc' := 4) C dX10_lay_1 rfl ?_
  refine G_iload_n (pc' := 5) C dX10_lay_4 1 rfl rfl ?_
  refine G_iload_n (pc' := 6) C dX10_lay_5 2 rfl rfl ?_
  obtain ⟨r1, hr1, h⟩ := ob h
  refine R_s_bits (pc' := 7) C dX10_lay_6 hr1 rfl ?_
  refine G_aload_n (pc' := 8) C dX10_lay_7 0 rfl rfl ?_
  refine R_g_kind (pc' := 11) C dX10_lay_8 rfl ?_
  refine G_iload_n (pc' := 12) C dX10_lay_11 1 rfl rfl ?_
  refine G_iload_n (pc' := 13) C dX10_lay_12 3 rfl rfl ?_
  obtain ⟨r2, hr2, h⟩ := ob h
  refine R_s_kind (pc' := 14) C dX10_lay_13 hr2 rfl ?_
  refine G_aload_n (pc' := 15) C dX10_lay_14 0 rfl rfl ?_
  refine R_g_putWorth (pc' := 18) C dX10_lay_15 rfl ?_
  refine G_iload_n (pc' := 19) C dX10_lay_18 1 rfl rfl ?_
  refine G_iload (pc' := 21) C dX10_lay_19 4 rfl rfl ?_
  obtain ⟨r3, hr3, h⟩ := ob h
  refine R_s_putWorth (pc' := 22) C dX10_lay_21 hr3 rfl ?_
  refine G_iconst (pc' := 23) (v := (0 : Int32)) C dX10_lay_22 (by decide) rfl ?_
  refine G_istore (pc' := 25) C dX10_lay_23 [(5, .int (0 : Int32)), (0, .ref o), (1, .int a1), (2, .int a2), (3, .int a3), (4, .int a4)] (by decide) rfl rfl ?_
  obtain ⟨e6, hle6, h⟩ := ob h
  refine G_sub (lv' := [(0, .ref o), (1, .int a1), (2, .int a2), (5, .int (0 : Int32))]) [1, 2, 3, 0] rfl ?_
  refine lpN_ind (P := fun u => GR κ p l e s m ([.ref o, .int a1, .int a2, .int a3, .int a4] : List Value).toArray below meth c rmX10_lay 6 o none (RB κ o q) u.2 25 [(0, .ref o), (1, .int a1), (2, .int a2), (5, .int u.1)] []) (X := fun w => GR κ p l e s m ([.ref o, .int a1, .int a2, .int a3, .int a4] : List Value).toArray below meth c rmX10_lay 6 o none (RB κ o q) w 59 [] []) (fun u y hb kc kx => tX10_lay_L25 C hb kc kx) _ _ _ hle6 ?_
  obtain rfl := Option.some.inj h
  exact G_vret C dX10_lay_59 (fun _ h => h)
theorem dX10_put_0 : decode cX10_put 0 = .ok (.aload_n 0, 1) := by decide +kernel
theorem dX10_put_1 : decode cX10_put 1 = .ok (.getfield 159, 3) := by decide +kernel
theorem dX10_put_4 : decode cX10_put 4 = .ok (.istore_n 3, 1) := by decide +kernel
theorem dX10_put_5 : decode cX10_put 5 = .ok (.aload_n 0, 1) := by decide +kernel
theorem dX10_put_6 : decode cX10_put 6 = .ok (.iconst 0, 1) := by decide +kernel
theorem dX10_put_7 : decode cX10_put 7 = .ok (.putfield 159, 3) := by decide +kernel
theorem dX10_put_10 : decode cX10_put 10 = .ok (.iload_n 1, 1) := by decide +kernel
theorem dX10_put_11 : decode cX10_put 11 = .ok (.invokestatic 115, 3) := by decide +kernel
theorem dX10_put_14 : decode cX10_put 14 = .ok (.ifCond .eq 10, 3) := by decide +kernel
theorem dX10_put_17 : decode cX10_put 17 = .ok (.iload_n 2, 1) := by decide +kernel
theorem dX10_put_18 : decode cX10_put 18 = .ok (.invokestatic 115, 3) := by decide +kernel
theorem dX10_put_21 : decode cX10_put 21 = .ok (.ifCond .ne 6, 3) := by decide +kernel
theorem dX10_put_24 : decode cX10_put 24 = .ok (.bipush (-2), 2) := by decide +kernel
theorem dX10_put_26 : decode cX10_put 26 = .ok (.ireturn, 1) := by decide +kernel
theorem dX10_put_27 : decode cX10_put 27 = .ok (.aload_n 0, 1) := by decide +kernel
theorem dX10_put_28 : decode cX10_put 28 = .ok (.getfield 7, 3) := by decide +kernel
theorem dX10_put_31 : decode cX10_put 31 = .ok (.iload_n 2, 1) := by decide +kernel
theorem dX10_put_32 : decode cX10_put 32 = .ok (.iaload, 1) := by decide +kernel
theorem dX10_put_33 : decode cX10_put 33 = .ok (.ifCond .ne 10, 3) := by decide +kernel
theorem dX10_put_36 : decode cX10_put 36 = .ok (.aload_n 0, 1) := by decide +kernel
theorem dX10_put_37 : decode cX10_put 37 = .ok (.bipush (-10), 2) := by decide +kernel
theorem dX10_put_39 : decode cX10_put 39 = .ok (.invokevirtual 136, 3) := by decide +kernel
theorem dX10_put_42 : decode cX10_put 42 = .ok (.ireturn, 1) := by decide +kernel
theorem dX10_put_43 : decode cX10_put 43 = .ok (.iload_n 3, 1) := by decide +kernel
theorem dX10_put_44 : decode cX10_put 44 = .ok (.aload_n 0, 1) := by decide +kernel
theorem dX10_put_45 : decode cX10_put 45 = .ok (.getfield 7, 3) := by decide +kernel
theorem dX10_put_48 : decode cX10_put 48 = .ok (.iload_n 2, 1) := by decide +kernel
theorem dX10_put_49 : decode cX10_put 49 = .ok (.iaload, 1) := by decide +kernel
theorem dX10_put_50 : decode cX10_put 50 = .ok (.if_icmp .ne 7, 3) := by decide +kernel
theorem dX10_put_53 : decode cX10_put 53 = .ok (.iconst 1, 1) := by decide +kernel
theorem dX10_put_54 : decode cX10_put 54 = .ok (.goto 4, 3) := by decide +kernel
theorem dX10_put_57 : decode cX10_put 57 = .ok (.iconst 0, 1) := by decide +kernel
theorem dX10_put_58 : decode cX10_put 58 = .ok (.istore 4, 2) := by decide +kernel
theorem dX10_put_60 : decode cX10_put 60 = .ok (.iconst 0, 1) := by decide +kernel
theorem dX10_put_61 : decode cX10_put 61 = .ok (.istore 5, 2) := by decide +kernel
theorem dX10_put_63 : decode cX10_put 63 = .ok (.iload 5, 2) := by decide +kernel
theorem dX10_put_65 : decode cX10_put 65 = .ok (.iload_n 3, 1) := by decide +kernel
theorem dX10_put_66 : decode cX10_put 66 = .ok (.if_icmp .ge 24, 3) := by decide +kernel
theorem dX10_put_69 : decode cX10_put 69 = .ok (.iload 4, 2) := by decide +kernel
theorem dX10_put_71 : decode cX10_put 71 = .ok (.aload_n 0, 1) := by decide +kernel
theorem dX10_put_72 : decode cX10_put 72 = .ok (.getfield 32, 3) := by decide +kernel
theorem dX10_put_75 : decode cX10_put 75 = .ok (.iload 5, 2) := by decide +kernel
theorem dX10_put_77 : decode cX10_put 77 = .ok (.iaload, 1) := by decide +kernel
theorem dX10_put_78 : decode cX10_put 78 = .ok (.invokestatic 115, 3) := by decide +kernel
theorem dX10_put_81 : decode cX10_put 81 = .ok (.iand, 1) := by decide +kernel
theorem dX10_put_82 : decode cX10_put 82 = .ok (.istore 4, 2) := by decide +kernel
theorem dX10_put_84 : decode cX10_put 84 = .ok (.iinc 5 1, 3) := by decide +kernel
theorem dX10_put_87 : decode cX10_put 87 = .ok (.goto (-24), 3) := by decide +kernel
theorem dX10_put_90 : decode cX10_put 90 = .ok (.iload 4, 2) := by decide +kernel
theorem dX10_put_92 : decode cX10_put 92 = .ok (.ifCond .ne 6, 3) := by decide +kernel
theorem dX10_put_95 : decode cX10_put 95 = .ok (.bipush (-2), 2) := by decide +kernel
theorem dX10_put_97 : decode cX10_put 97 = .ok (.ireturn, 1) := by decide +kernel
theorem dX10_put_98 : decode cX10_put 98 = .ok (.aload_n 0, 1) := by decide +kernel
theorem dX10_put_99 : decode cX10_put 99 = .ok (.iload_n 2, 1) := by decide +kernel
theorem dX10_put_100 : decode cX10_put 100 = .ok (.invokevirtual 130, 3) := by decide +kernel
theorem dX10_put_103 : decode cX10_put 103 = .ok (.ifCond .le 7, 3) := by decide +kernel
theorem dX10_put_106 : decode cX10_put 106 = .ok (.iconst 1, 1) := by decide +kernel
theorem dX10_put_107 : decode cX10_put 107 = .ok (.goto 4, 3) := by decide +kernel
theorem dX10_put_110 : decode cX10_put 110 = .ok (.iconst 0, 1) := by decide +kernel
theorem dX10_put_111 : decode cX10_put 111 = .ok (.istore 5, 2) := by decide +kernel
theorem dX10_put_113 : decode cX10_put 113 = .ok (.iconst 0, 1) := by decide +kernel
theorem dX10_put_114 : decode cX10_put 114 = .ok (.istore 6, 2) := by decide +kernel
theorem dX10_put_116 : decode cX10_put 116 = .ok (.iconst 0, 1) := by decide +kernel
theorem dX10_put_117 : decode cX10_put 117 = .ok (.istore 7, 2) := by decide +kernel
theorem dX10_put_119 : decode cX10_put 119 = .ok (.iconst 0, 1) := by decide +kernel
theorem dX10_put_120 : decode cX10_put 120 = .ok (.istore 8, 2) := by decide +kernel
theorem dX10_put_122 : decode cX10_put 122 = .ok (.iload 8, 2) := by decide +kernel
theorem dX10_put_124 : decode cX10_put 124 = .ok (.iload_n 3, 1) := by decide +kernel
theorem dX10_put_125 : decode cX10_put 125 = .ok (.if_icmp .ge 88, 3) := by decide +kernel
theorem dX10_put_128 : decode cX10_put 128 = .ok (.aload_n 0, 1) := by decide +kernel
theorem dX10_put_129 : decode cX10_put 129 = .ok (.getfield 7, 3) := by decide +kernel
theorem dX10_put_132 : decode cX10_put 132 = .ok (.aload_n 0, 1) := by decide +kernel
theorem dX10_put_133 : decode cX10_put 133 = .ok (.getfield 32, 3) := by decide +kernel
theorem dX10_put_136 : decode cX10_put 136 = .ok (.iload 8, 2) := by decide +kernel
theorem dX10_put_138 : decode cX10_put 138 = .ok (.iaload, 1) := by decide +kernel
theorem dX10_put_139 : decode cX10_put 139 = .ok (.iaload, 1) := by decide +kernel
theorem dX10_put_140 : decode cX10_put 140 = .ok (.ifCond .ne 10, 3) := by decide +kernel
theorem dX10_put_143 : decode cX10_put 143 = .ok (.aload_n 0, 1) := by decide +kernel
theorem dX10_put_144 : decode cX10_put 144 = .ok (.bipush (-10), 2) := by decide +kernel
theorem dX10_put_146 : decode cX10_put 146 = .ok (.invokevirtual 136, 3) := by decide +kernel
theorem dX10_put_149 : decode cX10_put 149 = .ok (.ireturn, 1) := by decide +kernel
theorem dX10_put_150 : decode cX10_put 150 = .ok (.iload 5, 2) := by decide +kernel
theorem dX10_put_152 : decode cX10_put 152 = .ok (.aload_n 0, 1) := by decide +kernel
theorem dX10_put_153 : decode cX10_put 153 = .ok (.aload_n 0, 1) := by decide +kernel
theorem dX10_put_154 : decode cX10_put 154 = .ok (.getfield 32, 3) := by decide +kernel
theorem dX10_put_157 : decode cX10_put 157 = .ok (.iload 8, 2) := by decide +kernel
theorem dX10_put_159 : decode cX10_put 159 = .ok (.iaload, 1) := by decide +kernel
theorem dX10_put_160 : decode cX10_put 160 = .ok (.invokevirtual 130, 3) := by decide +kernel
theorem dX10_put_163 : decode cX10_put 163 = .ok (.ifCond .le 7, 3) := by decide +kernel
theorem dX10_put_166 : decode cX10_put 166 = .ok (.iconst 1, 1) := by decide +kernel
theorem dX10_put_167 : decode cX10_put 167 = .ok (.goto 4, 3) := by decide +kernel
theorem dX10_put_170 : decode cX10_put 170 = .ok (.iconst 0, 1) := by decide +kernel
theorem dX10_put_171 : decode cX10_put 171 = .ok (.ior, 1) := by decide +kernel
theorem dX10_put_172 : decode cX10_put 172 = .ok (.istore 5, 2) := by decide +kernel
theorem dX10_put_174 : decode cX10_put 174 = .ok (.iload 6, 2) := by decide +kernel
theorem dX10_put_176 : decode cX10_put 176 = .ok (.aload_n 0, 1) := by decide +kernel
theorem dX10_put_177 : decode cX10_put 177 = .ok (.getfield 7, 3) := by decide +kernel
theorem dX10_put_180 : decode cX10_put 180 = .ok (.aload_n 0, 1) := by decide +kernel
theorem dX10_put_181 : decode cX10_put 181 = .ok (.getfield 32, 3) := by decide +kernel
theorem dX10_put_184 : decode cX10_put 184 = .ok (.iload 8, 2) := by decide +kernel
theorem dX10_put_186 : decode cX10_put 186 = .ok (.iaload, 1) := by decide +kernel
theorem dX10_put_187 : decode cX10_put 187 = .ok (.iaload, 1) := by decide +kernel
theorem dX10_put_188 : decode cX10_put 188 = .ok (.iadd, 1) := by decide +kernel
theorem dX10_put_189 : decode cX10_put 189 = .ok (.istore 6, 2) := by decide +kernel
theorem dX10_put_191 : decode cX10_put 191 = .ok (.iload 7, 2) := by decide +kernel
theorem dX10_put_193 : decode cX10_put 193 = .ok (.aload_n 0, 1) := by decide +kernel
theorem dX10_put_194 : decode cX10_put 194 = .ok (.aload_n 0, 1) := by decide +kernel
theorem dX10_put_195 : decode cX10_put 195 = .ok (.getfield 32, 3) := by decide +kernel
theorem dX10_put_198 : decode cX10_put 198 = .ok (.iload 8, 2) := by decide +kernel
theorem dX10_put_200 : decode cX10_put 200 = .ok (.iaload, 1) := by decide +kernel
theorem dX10_put_201 : decode cX10_put 201 = .ok (.invokevirtual 152, 3) := by decide +kernel
theorem dX10_put_204 : decode cX10_put 204 = .ok (.iadd, 1) := by decide +kernel
theorem dX10_put_205 : decode cX10_put 205 = .ok (.istore 7, 2) := by decide +kernel
theorem dX10_put_207 : decode cX10_put 207 = .ok (.iinc 8 1, 3) := by decide +kernel
theorem dX10_put_210 : decode cX10_put 210 = .ok (.goto (-88), 3) := by decide +kernel
theorem dX10_put_213 : decode cX10_put 213 = .ok (.iload 5, 2) := by decide +kernel
theorem dX10_put_215 : decode cX10_put 215 = .ok (.ifCond .eq 6, 3) := by decide +kernel
theorem dX10_put_218 : decode cX10_put 218 = .ok (.bipush (-4), 2) := by decide +kernel
theorem dX10_put_220 : decode cX10_put 220 = .ok (.ireturn, 1) := by decide +kernel
theorem dX10_put_221 : decode cX10_put 221 = .ok (.iload 6, 2) := by decide +kernel
theorem dX10_put_223 : decode cX10_put 223 = .ok (.bipush 8, 2) := by decide +kernel
theorem dX10_put_225 : decode cX10_put 225 = .ok (.if_icmp .le 6, 3) := by decide +kernel
theorem dX10_put_228 : decode cX10_put 228 = .ok (.bipush (-5), 2) := by decide +kernel
theorem dX10_put_230 : decode cX10_put 230 = .ok (.ireturn, 1) := by decide +kernel
theorem dX10_put_231 : decode cX10_put 231 = .ok (.iconst 0, 1) := by decide +kernel
theorem dX10_put_232 : decode cX10_put 232 = .ok (.istore 8, 2) := by decide +kernel
theorem dX10_put_234 : decode cX10_put 234 = .ok (.iload 8, 2) := by decide +kernel
theorem dX10_put_236 : decode cX10_put 236 = .ok (.iconst 1, 1) := by decide +kernel
theorem dX10_put_237 : decode cX10_put 237 = .ok (.iload 6, 2) := by decide +kernel
theorem dX10_put_239 : decode cX10_put 239 = .ok (.ishl, 1) := by decide +kernel
theorem dX10_put_240 : decode cX10_put 240 = .ok (.if_icmp .ge 94, 3) := by decide +kernel
theorem dX10_put_243 : decode cX10_put 243 = .ok (.iload 8, 2) := by decide +kernel
theorem dX10_put_245 : decode cX10_put 245 = .ok (.istore 9, 2) := by decide +kernel
theorem dX10_put_247 : decode cX10_put 247 = .ok (.iconst 0, 1) := by decide +kernel
theorem dX10_put_248 : decode cX10_put 248 = .ok (.istore 10, 2) := by decide +kernel
theorem dX10_put_250 : decode cX10_put 250 = .ok (.iconst 0, 1) := by decide +kernel
theorem dX10_put_251 : decode cX10_put 251 = .ok (.istore 11, 2) := by decide +kernel
theorem dX10_put_253 : decode cX10_put 253 = .ok (.iload 11, 2) := by decide +kernel
theorem dX10_put_255 : decode cX10_put 255 = .ok (.iload_n 3, 1) := by decide +kernel
theorem dX10_put_256 : decode cX10_put 256 = .ok (.if_icmp .ge 58, 3) := by decide +kernel
theorem dX10_put_259 : decode cX10_put 259 = .ok (.aload_n 0, 1) := by decide +kernel
theorem dX10_put_260 : decode cX10_put 260 = .ok (.getfield 32, 3) := by decide +kernel
theorem dX10_put_263 : decode cX10_put 263 = .ok (.iload 11, 2) := by decide +kernel
theorem dX10_put_265 : decode cX10_put 265 = .ok (.iaload, 1) := by decide +kernel
theorem dX10_put_266 : decode cX10_put 266 = .ok (.istore 12, 2) := by decide +kernel
theorem dX10_put_268 : decode cX10_put 268 = .ok (.iload 10, 2) := by decide +kernel
theorem dX10_put_270 : decode cX10_put 270 = .ok (.aload_n 0, 1) := by decide +kernel
theorem dX10_put_271 : decode cX10_put 271 = .ok (.iload 12, 2) := by decide +kernel
theorem dX10_put_273 : decode cX10_put 273 = .ok (.iload 9, 2) := by decide +kernel
theorem dX10_put_275 : decode cX10_put 275 = .ok (.iconst 1, 1) := by decide +kernel
theorem dX10_put_276 : decode cX10_put 276 = .ok (.aload_n 0, 1) := by decide +kernel
theorem dX10_put_277 : decode cX10_put 277 = .ok (.getfield 7, 3) := by decide +kernel
theorem dX10_put_280 : decode cX10_put 280 = .ok (.iload 12, 2) := by decide +kernel
theorem dX10_put_282 : decode cX10_put 282 = .ok (.iaload, 1) := by decide +kernel
theorem dX10_put_283 : decode cX10_put 283 = .ok (.ishl, 1) := by decide +kernel
theorem dX10_put_284 : decode cX10_put 284 = .ok (.iconst 1, 1) := by decide +kernel
theorem dX10_put_285 : decode cX10_put 285 = .ok (.isub, 1) := by decide +kernel
theorem dX10_put_286 : decode cX10_put 286 = .ok (.iand, 1) := by decide +kernel
theorem dX10_put_287 : decode cX10_put 287 = .ok (.invokevirtual 123, 3) := by decide +kernel
theorem dX10_put_290 : decode cX10_put 290 = .ok (.iload 11, 2) := by decide +kernel
theorem dX10_put_292 : decode cX10_put 292 = .ok (.ishl, 1) := by decide +kernel
theorem dX10_put_293 : decode cX10_put 293 = .ok (.ior, 1) := by decide +kernel
theorem dX10_put_294 : decode cX10_put 294 = .ok (.istore 10, 2) := by decide +kernel
theorem dX10_put_296 : decode cX10_put 296 = .ok (.iload 9, 2) := by decide +kernel
theorem dX10_put_298 : decode cX10_put 298 = .ok (.aload_n 0, 1) := by decide +kernel
theorem dX10_put_299 : decode cX10_put 299 = .ok (.getfield 7, 3) := by decide +kernel
theorem dX10_put_302 : decode cX10_put 302 = .ok (.iload 12, 2) := by decide +kernel
theorem dX10_put_304 : decode cX10_put 304 = .ok (.iaload, 1) := by decide +kernel
theorem dX10_put_305 : decode cX10_put 305 = .ok (.ishr, 1) := by decide +kernel
theorem dX10_put_306 : decode cX10_put 306 = .ok (.istore 9, 2) := by decide +kernel
theorem dX10_put_308 : decode cX10_put 308 = .ok (.iinc 11 1, 3) := by decide +kernel
theorem dX10_put_311 : decode cX10_put 311 = .ok (.goto (-58), 3) := by decide +kernel
theorem dX10_put_314 : decode cX10_put 314 = .ok (.aload_n 0, 1) := by decide +kernel
theorem dX10_put_315 : decode cX10_put 315 = .ok (.getfield 45, 3) := by decide +kernel
theorem dX10_put_318 : decode cX10_put 318 = .ok (.iload 8, 2) := by decide +kernel
theorem dX10_put_320 : decode cX10_put 320 = .ok (.aload_n 0, 1) := by decide +kernel
theorem dX10_put_321 : decode cX10_put 321 = .ok (.iload_n 2, 1) := by decide +kernel
theorem dX10_put_322 : decode cX10_put 322 = .ok (.iload 10, 2) := by decide +kernel
theorem dX10_put_324 : decode cX10_put 324 = .ok (.invokevirtual 123, 3) := by decide +kernel
theorem dX10_put_327 : decode cX10_put 327 = .ok (.iastore, 1) := by decide +kernel
theorem dX10_put_328 : decode cX10_put 328 = .ok (.iinc 8 1, 3) := by decide +kernel
theorem dX10_put_331 : decode cX10_put 331 = .ok (.goto (-97), 3) := by decide +kernel
theorem dX10_put_334 : decode cX10_put 334 = .ok (.aload_n 0, 1) := by decide +kernel
theorem dX10_put_335 : decode cX10_put 335 = .ok (.iload_n 1, 1) := by decide +kernel
theorem dX10_put_336 : decode cX10_put 336 = .ok (.iload 6, 2) := by decide +kernel
theorem dX10_put_338 : decode cX10_put 338 = .ok (.iconst 3, 1) := by decide +kernel
theorem dX10_put_339 : decode cX10_put 339 = .ok (.iload 7, 2) := by decide +kernel
theorem dX10_put_341 : decode cX10_put 341 = .ok (.invokevirtual 162, 3) := by decide +kernel
theorem dX10_put_344 : decode cX10_put 344 = .ok (.iload 6, 2) := by decide +kernel
theorem dX10_put_346 : decode cX10_put 346 = .ok (.ireturn, 1) := by decide +kernel
abbrev rmX10_put : Room := { frames := 2, cells := 0, slots := 0, locals := 45 }
theorem yd_X10_put : yX10_put.cls = RX10 ∧ yX10_put.cls ≠ "java/lang/invoke/MethodHandle" ∧ yX10_put.cls ≠ "java/lang/invoke/VarHandle" ∧ (parseMethodDescriptor yX10_put.desc).map (fun d => d.parameters.length) = some 2 := by decide +kernel
def fX10_put_L63 (r : RS) (l1 : Int32) (l2 : Int32) (l3 : Int32) (l4 : Int32) (l5 : Int32) : Option ((Int32 × Int32) ⊕ Int32) :=
  if l3 ≤ l5 then
    some (.inr l4)
  else
    (aI 100 (r.2.1 7) l5).bind fun v5 =>
    (fX10_isPlace v5).bind fun q6 =>
    some (.inl ((l4 &&& q6), (l5 + (1 : Int32))))
def fX10_put_L122_J171 (r : RS) (l1 : Int32) (l2 : Int32) (l3 : Int32) (l6 : Int32) (l7 : Int32) (l8 : Int32) (s0 : Int32) (s1 : Int32) : Option ((Int32 × Int32 × Int32 × Int32 × RS) ⊕ ((Int32 × Int32 × Int32 × RS) ⊕ (Int32 × RS))) :=
  (aI 100 (r.2.1 7) l8).bind fun v13 =>
  (aI 16 (r.2.1 0) v13).bind fun v14 =>
  (aI 100 (r.2.1 7) l8).bind fun v15 =>
  (fX10_worth r v15).bind fun q16 =>
  some (.inl ((s1 ||| s0), (l6 + v14), (l7 + q16), (l8 + (1 : Int32)), r))
def fX10_put_L122 (r : RS) (l1 : Int32) (l2 : Int32) (l3 : Int32) (l5 : Int32) (l6 : Int32) (l7 : Int32) (l8 : Int32) : Option ((Int32 × Int32 × Int32 × Int32 × RS) ⊕ ((Int32 × Int32 × Int32 × RS) ⊕ (Int32 × RS))) :=
  if l3 ≤ l8 then
    some (.inr (.inl (l5, l6, l7, r)))
  else
    (aI 100 (r.2.1 7) l8).bind fun v9 =>
    (aI 16 (r.2.1 0) v9).bind fun v10 =>
    if v10 = 0 then
      (fX10_meet r (-10 : Int32)).bind fun q17 =>
      some (.inr (.inr (q17.1, q17.2)))
    else
      (aI 100 (r.2.1 7) l8).bind fun v11 =>
      (fX10_opens r v11).bind fun q12 =>
      if q12 ≤ 0 then
        fX10_put_L122_J171 r l1 l2 l3 l6 l7 l8 (0 : Int32) l5
      else
        fX10_put_L122_J171 r l1 l2 l3 l6 l7 l8 (1 : Int32) l5
def fX10_put_L253 (r : RS) (l1 : Int32) (l2 : Int32) (l3 : Int32) (l6 : Int32) (l7 : Int32) (l8 : Int32) (l9 : Int32) (l10 : Int32) (l11 : Int32) : Option ((Int32 × Int32 × Int32) ⊕ Int32) :=
  if l3 ≤ l11 then
    some (.inr l10)
  else
    (aI 100 (r.2.1 7) l11).bind fun v20 =>
    (aI 16 (r.2.1 0) v20).bind fun v21 =>
    (fX10_say0 r v20 (l9 &&& (((1 : Int32) <<< (v21 &&& 31)) - (1 : Int32)))).bind fun q22 =>
    (aI 16 (r.2.1 0) v20).bind fun v23 =>
    some (.inl ((l9 >>> (v23 &&& 31)), (l10 ||| (q22 <<< (l11 &&& 31))), (l11 + (1 : Int32))))
def fX10_put_L234 (r : RS) (l1 : Int32) (l2 : Int32) (l3 : Int32) (l6 : Int32) (l7 : Int32) (l8 : Int32) : Option ((Int32 × RS) ⊕ RS) :=
  if ((1 : Int32) <<< (l6 &&& 31)) ≤ l8 then
    some (.inr r)
  else
    (lpN (fun u => fX10_put_L253 r l1 l2 l3 l6 l7 l8 u.1 u.2.1 u.2.2) bigN (l8, (0 : Int32), (0 : Int32))).bind fun e24 =>
    (fX10_say0 r l2 e24).bind fun q25 =>
    (sA r 9 256 l8 q25).bind fun r26 =>
    some (.inl ((l8 + (1 : Int32)), r26))
def fX10_put_J111 (r : RS) (l1 : Int32) (l2 : Int32) (l3 : Int32) (s0 : Int32) : Option (Int32 × RS) :=
  (lpN (fun u => fX10_put_L122 u.2.2.2.2 l1 l2 l3 u.1 u.2.1 u.2.2.1 u.2.2.2.1) bigN (s0, (0 : Int32), (0 : Int32), (0 : Int32), r)).bind fun e18 =>
  sel e18 (fun x19 =>
    if x19.1 = 0 then
      if x19.2.1 ≤ (8 : Int32) then
        (lpN (fun u => fX10_put_L234 u.2 l1 l2 l3 x19.2.1 x19.2.2.1 u.1) bigN ((0 : Int32), x19.2.2.2)).bind fun e27 =>
        (fX10_lay e27 l1 x19.2.1 (3 : Int32) x19.2.2.1).bind fun q28 =>
        some (x19.2.1, q28)
      else
        some ((-5 : Int32), x19.2.2.2)
    else
      some ((-4 : Int32), x19.2.2.2)
    ) (fun rt => some rt)
def fX10_put_J58 (r : RS) (l1 : Int32) (l2 : Int32) (l3 : Int32) (s0 : Int32) : Option (Int32 × RS) :=
  (lpN (fun u => fX10_put_L63 r l1 l2 l3 u.1 u.2) bigN (s0, (0 : Int32))).bind fun e7 =>
  if e7 = 0 then
    some ((-2 : Int32), r)
  else
    (fX10_opens r l2).bind fun q8 =>
    if q8 ≤ 0 then
      fX10_put_J111 r l1 l2 l3 (0 : Int32)
    else
      fX10_put_J111 r l1 l2 l3 (1 : Int32)
def fX10_put_J24 (r : RS) : Option (Int32 × RS) :=
  some ((-2 : Int32), r)
def fX10_put (r : RS) (a1 : Int32) (a2 : Int32) : Option (Int32 × RS) :=
  (fX10_isPlace a1).bind fun q1 =>
  if q1 = 0 then
    fX10_put_J24 (rI r 1 (0 : Int32))
  else
    (fX10_isPlace a2).bind fun q2 =>
    if q2 = 0 then
      fX10_put_J24 (rI r 1 (0 : Int32))
    else
      (aI 16 ((rI r 1 (0 : Int32)).2.1 0) a2).bind fun v3 =>
      if v3 = 0 then
        (fX10_meet (rI r 1 (0 : Int32)) (-10 : Int32)).bind fun q29 =>
        some (q29.1, q29.2)
      else
        (aI 16 ((rI r 1 (0 : Int32)).2.1 0) a2).bind fun v4 =>
        if (r.1 1) = v4 then
          fX10_put_J58 (rI r 1 (0 : Int32)) a1 a2 (r.1 1) (1 : Int32)
        else
          fX10_put_J58 (rI r 1 (0 : Int32)) a1 a2 (r.1 1) (0 : Int32)
set_option maxHeartbeats 4000000 in
set_option maxRecDepth 100000 in
theorem tX10_put_L63 {κ : KK} {p : Program} {l : Launch} {e : Env} {s : State} {m : MethodId} {args : Array Value} {below : List Frame} {meth : Method} {c : Code} (C : Cx κ p s m args meth c cX10_put 13 RX10 (some .int)) {o : Nat} {v : Option Value} {B' : Heap → Prop} {r : RS} {l1 : Int32} {l2 : Int32} {l3 : Int32} {l4 : Int32} {l5 : Int32} {y : (Int32 × Int32) ⊕ Int32} (h : fX10_put_L63 r l1 l2 l3 l4 l5 = some y) (kc : ∀ u, y = .inl u → GR κ p l e s m args below meth c rmX10_put 13 o v B' r 63 [(0, .ref o), (1, .int l1), (2, .int l2), (3, .int l3), (4, .int u.1), (5, .int u.2)] []) (kx : ∀ w, y = .inr w → GR κ p l e s m args below meth c rmX10_put 13 o v B' r 90 [(0, .ref o), (1, .int l1), (2, .int l2), (3, .int l3), (4, .int w)] []) : GR κ p l e s m args below meth c rmX10_put 13 o v B' r 63 [(0, .ref o), (1, .int l1), (2, .int l2), (3, .int l3), (4, .int l4), (5, .int l5)] [] := by
  unfold fX10_put_L63 at h
  refine G_iload (pc' := 65) C dX10_put_63 5 rfl rfl ?_
  refine G_iload_n (pc' := 66) C dX10_put_65 3 rfl rfl ?_
  refine G_icmp_ge (tgt := 90) (pc' := 69) C dX10_put_66 (by decide) rfl (fun hc => ?_) (fun hc => ?_)
  · replace h := z_ip hc h
    exact G_sub [0, 1, 2, 3, 4] rfl (kx _ (Option.some.inj h).symm)
  · replace h := z_in hc h
    refine G_iload (pc' := 71) C dX10_put_69 4 rfl rfl ?_
    refine G_aload_n (pc' := 72) C dX10_put_71 0 rfl rfl ?_
    refine R_g_waiting (pc' := 75) C dX10_put_72 rfl ?_
    refine G_iload (pc' := 77) C dX10_put_75 5 rfl rfl ?_
    obtain ⟨v5, hv5, h⟩ := ob h
    refine R_l_waiting (pc' := 78) C dX10_put_77 hv5 rfl ?_
    obtain ⟨q6, hq6, h⟩ := ob h
    refine G_cS0 (pc' := 81) C dX10_put_78 (tX10_isPlace κ l (RA o) (RB κ o r) v5 q6 hq6) (wS tw_ml_X10_115 tw_st_X10_isPlace tw_co_X10_isPlace tw_in_X10) yd_X10_isPlace rfl rfl rfl (by decide) rfl (Nat.le_of_ble_eq_true rfl) rfl rfl ?_
    refine G_iand (pc' := 82) C dX10_put_81 rfl ?_
    refine G_istore (pc' := 84) C dX10_put_82 [(4, .int (l4 &&& q6)), (0, .ref o), (1, .int l1), (2, .int l2), (3, .int l3), (5, .int l5)] (by decide) rfl rfl ?_
    refine G_iinc (pc' := 87) C dX10_put_84 5 rfl rfl [(5, .int (l5 + (1 : Int32))), (4, .int (l4 &&& q6)), (0, .ref o), (1, .int l1), (2, .int l2), (3, .int l3)] (by decide) rfl rfl ?_
    refine G_goto (tgt := 63) C dX10_put_87 (by decide) ?_
    exact G_sub [2, 3, 4, 5, 1, 0] rfl (kc _ (Option.some.inj h).symm)
set_option maxHeartbeats 4000000 in
set_option maxRecDepth 100000 in
theorem tX10_put_L122 {κ : KK} {p : Program} {l : Launch} {e : Env} {s : State} {m : MethodId} {args : Array Value} {below : List Frame} {meth : Method} {c : Code} (C : Cx κ p s m args meth c cX10_put 13 RX10 (some .int)) {o : Nat} {v : Option Value} {B' : Heap → Prop} {r : RS} {l1 : Int32} {l2 : Int32} {l3 : Int32} {l5 : Int32} {l6 : Int32} {l7 : Int32} {l8 : Int32} {y : (Int32 × Int32 × Int32 × Int32 × RS) ⊕ ((Int32 × Int32 × Int32 × RS) ⊕ (Int32 × RS))} (h : fX10_put_L122 r l1 l2 l3 l5 l6 l7 l8 = some y) (kc : ∀ u, y = .inl u → GR κ p l e s m args below meth c rmX10_put 13 o v B' u.2.2.2.2 122 [(0, .ref o), (1, .int l1), (2, .int l2), (3, .int l3), (5, .int u.1), (6, .int u.2.1), (7, .int u.2.2.1), (8, .int u.2.2.2.1)] []) (kx : ∀ w, y = .inr w → (∀ x, w = .inl x → GR κ p l e s m args below meth c rmX10_put 13 o v B' x.2.2.2 213 [(0, .ref o), (1, .int l1), (2, .int l2), (3, .int l3), (5, .int x.1), (6, .int x.2.1), (7, .int x.2.2.1)] []) ∧ (∀ rt, w = .inr rt → v = (some (Value.int rt.1)) ∧ B' = (RB κ o rt.2))) : GR κ p l e s m args below meth c rmX10_put 13 o v B' r 122 [(0, .ref o), (1, .int l1), (2, .int l2), (3, .int l3), (5, .int l5), (6, .int l6), (7, .int l7), (8, .int l8)] [] := by
  have J171 : ∀ (r : RS) (l6 : Int32) (l7 : Int32) (l8 : Int32) (s0 : Int32) (s1 : Int32), fX10_put_L122_J171 r l1 l2 l3 l6 l7 l8 s0 s1 = some y → GR κ p l e s m args below meth c rmX10_put 13 o v B' r 171 [(0, .ref o), (1, .int l1), (2, .int l2), (3, .int l3), (6, .int l6), (7, .int l7), (8, .int l8)] [.int s0, .int s1] := by
    intro r l6 l7 l8 s0 s1 h
    unfold fX10_put_L122_J171 at h
    refine G_ior (pc' := 172) C dX10_put_171 rfl ?_
    refine G_istore (pc' := 174) C dX10_put_172 [(5, .int (s1 ||| s0)), (0, .ref o), (1, .int l1), (2, .int l2), (3, .int l3), (6, .int l6), (7, .int l7), (8, .int l8)] (by decide) rfl rfl ?_
    refine G_iload (pc' := 176) C dX10_put_174 5 rfl rfl ?_
    refine G_aload_n (pc' := 177) C dX10_put_176 1 rfl rfl ?_
    refine R_g_bits (pc' := 180) C dX10_put_177 rfl ?_
    refine G_aload_n (pc' := 181) C dX10_put_180 1 rfl rfl ?_
    refine R_g_waiting (pc' := 184) C dX10_put_181 rfl ?_
    refine G_iload (pc' := 186) C dX10_put_184 7 rfl rfl ?_
    obtain ⟨v13, hv13, h⟩ := ob h
    refine R_l_waiting (pc' := 187) C dX10_put_186 hv13 rfl ?_
    obtain ⟨v14, hv14, h⟩ := ob h
    refine R_l_bits (pc' := 188) C dX10_put_187 hv14 rfl ?_
    refine G_iadd (pc' := 189) C dX10_put_188 rfl ?_
    refine G_istore (pc' := 191) C dX10_put_189 [(6, .int (l6 + v14)), (5, .int (s1 ||| s0)), (0, .ref o), (1, .int l1), (2, .int l2), (3, .int l3), (7, .int l7), (8, .int l8)] (by decide) rfl rfl ?_
    refine G_iload (pc' := 193) C dX10_put_191 6 rfl rfl ?_
    refine G_aload_n (pc' := 194) C dX10_put_193 2 rfl rfl ?_
    refine G_aload_n (pc' := 195) C dX10_put_194 2 rfl rfl ?_
    refine R_g_waiting (pc' := 198) C dX10_put_195 rfl ?_
    refine G_iload (pc' := 200) C dX10_put_198 7 rfl rfl ?_
    obtain ⟨v15, hv15, h⟩ := ob h
    refine R_l_waiting (pc' := 201) C dX10_put_200 hv15 rfl ?_
    obtain ⟨q16, hq16, h⟩ := ob h
    refine G_cV0 (pc' := 204) C dX10_put_201 (tX10_worth κ l o r v15 q16 hq16) (wV tw_ml_X10_152 tw_im_X10_worth tw_se_X10_X10_worth tw_in_X10 tw_co_X10_worth) yd_X10_worth rfl fi_X10 (RB_rd 0 rfl) rfl rfl (by decide) rfl (Nat.le_of_ble_eq_true rfl) rfl rfl ?_
    refine G_iadd (pc' := 205) C dX10_put_204 rfl ?_
    refine G_istore (pc' := 207) C dX10_put_205 [(7, .int (l7 + q16)), (6, .int (l6 + v14)), (5, .int (s1 ||| s0)), (0, .ref o), (1, .int l1), (2, .int l2), (3, .int l3), (8, .int l8)] (by decide) rfl rfl ?_
    refine G_iinc (pc' := 210) C dX10_put_207 7 rfl rfl [(8, .int (l8 + (1 : Int32))), (7, .int (l7 + q16)), (6, .int (l6 + v14)), (5, .int (s1 ||| s0)), (0, .ref o), (1, .int l1), (2, .int l2), (3, .int l3)] (by decide) rfl rfl ?_
    refine G_goto (tgt := 122) C dX10_put_210 (by decide) ?_
    exact G_sub [4, 5, 6, 7, 3, 2, 1, 0] rfl (kc _ (Option.some.inj h).symm)
  unfold fX10_put_L122 at h
  refine G_iload (pc' := 124) C dX10_put_122 7 rfl rfl ?_
  refine G_iload_n (pc' := 125) C dX10_put_124 3 rfl rfl ?_
  refine G_icmp_ge (tgt := 213) (pc' := 128) C dX10_put_125 (by decide) rfl (fun hc => ?_) (fun hc => ?_)
  · replace h := z_ip hc h
    exact G_sub [0, 1, 2, 3, 4, 5, 6] rfl ((kx _ (Option.some.inj h).symm).1 _ rfl)
  · replace h := z_in hc h
    refine G_aload_n (pc' := 129) C dX10_put_128 0 rfl rfl ?_
    refine R_g_bits (pc' := 132) C dX10_put_129 rfl ?_
    refine G_aload_n (pc' := 133) C dX10_put_132 0 rfl rfl ?_
    refine R_g_waiting (pc' := 136) C dX10_put_133 rfl ?_
    refine G_iload (pc' := 138) C dX10_put_136 7 rfl rfl ?_
    obtain ⟨v9, hv9, h⟩ := ob h
    refine R_l_waiting (pc' := 139) C dX10_put_138 hv9 rfl ?_
    obtain ⟨v10, hv10, h⟩ := ob h
    refine R_l_bits (pc' := 140) C dX10_put_139 hv10 rfl ?_
    refine G_if_ne (tgt := 150) (pc' := 143) C dX10_put_140 (by decide) rfl (fun hc => ?_) (fun hc => ?_)
    · replace h := z_in hc h
      refine G_iload (pc' := 152) C dX10_put_150 4 rfl rfl ?_
      refine G_aload_n (pc' := 153) C dX10_put_152 0 rfl rfl ?_
      refine G_aload_n (pc' := 154) C dX10_put_153 0 rfl rfl ?_
      refine R_g_waiting (pc' := 157) C dX10_put_154 rfl ?_
      refine G_iload (pc' := 159) C dX10_put_157 7 rfl rfl ?_
      obtain ⟨v11, hv11, h⟩ := ob h
      refine R_l_waiting (pc' := 160) C dX10_put_159 hv11 rfl ?_
      obtain ⟨q12, hq12, h⟩ := ob h
      refine G_cV0 (pc' := 163) C dX10_put_160 (tX10_opens κ l o r v11 q12 hq12) (wV tw_ml_X10_130 tw_im_X10_opens tw_se_X10_X10_opens tw_in_X10 tw_co_X10_opens) yd_X10_opens rfl fi_X10 (RB_rd 0 rfl) rfl rfl (by decide) rfl (Nat.le_of_ble_eq_true rfl) rfl rfl ?_
      refine G_if_le (tgt := 170) (pc' := 166) C dX10_put_163 (by decide) rfl (fun hc => ?_) (fun hc => ?_)
      · replace h := z_ip hc h
        refine G_iconst (pc' := 171) (v := (0 : Int32)) C dX10_put_170 (by decide) rfl ?_
        exact G_sub [0, 1, 2, 3, 5, 6, 7] rfl (J171 r l6 l7 l8 (0 : Int32) l5 h)
      · replace h := z_in hc h
        refine G_iconst (pc' := 167) (v := (1 : Int32)) C dX10_put_166 (by decide) rfl ?_
        refine G_goto (tgt := 171) C dX10_put_167 (by decide) ?_
        exact G_sub [0, 1, 2, 3, 5, 6, 7] rfl (J171 r l6 l7 l8 (1 : Int32) l5 h)
    · replace h := z_ip hc h
      refine G_aload_n (pc' := 144) C dX10_put_143 0 rfl rfl ?_
      refine G_bipush (pc' := 146) (v := (-10 : Int32)) C dX10_put_144 (by decide) rfl ?_
      obtain ⟨q17, hq17, h⟩ := ob h
      refine G_cV0 (pc' := 149) C dX10_put_146 (tX10_meet κ l o r (-10 : Int32) q17 hq17) (wV tw_ml_X10_136 tw_im_X10_meet tw_se_X10_X10_meet tw_in_X10 tw_co_X10_meet) yd_X10_meet rfl fi_X10 (RB_rd 0 rfl) rfl rfl (by decide) rfl (Nat.le_of_ble_eq_true rfl) rfl rfl ?_
      obtain ⟨hv, hB⟩ := (kx _ (Option.some.inj h).symm).2 _ rfl
      subst hv
      subst hB
      exact G_iret C dX10_put_149 (fun _ h => h)
set_option maxHeartbeats 4000000 in
set_option maxRecDepth 100000 in
theorem tX10_put_L253 {κ : KK} {p : Program} {l : Launch} {e : Env} {s : State} {m : MethodId} {args : Array Value} {below : List Frame} {meth : Method} {c : Code} (C : Cx κ p s m args meth c cX10_put 13 RX10 (some .int)) {o : Nat} {v : Option Value} {B' : Heap → Prop} {r : RS} {l1 : Int32} {l2 : Int32} {l3 : Int32} {l6 : Int32} {l7 : Int32} {l8 : Int32} {l9 : Int32} {l10 : Int32} {l11 : Int32} {y : (Int32 × Int32 × Int32) ⊕ Int32} (h : fX10_put_L253 r l1 l2 l3 l6 l7 l8 l9 l10 l11 = some y) (kc : ∀ u, y = .inl u → GR κ p l e s m args below meth c rmX10_put 13 o v B' r 253 [(0, .ref o), (1, .int l1), (2, .int l2), (3, .int l3), (6, .int l6), (7, .int l7), (8, .int l8), (9, .int u.1), (10, .int u.2.1), (11, .int u.2.2)] []) (kx : ∀ w, y = .inr w → GR κ p l e s m args below meth c rmX10_put 13 o v B' r 314 [(0, .ref o), (1, .int l1), (2, .int l2), (3, .int l3), (6, .int l6), (7, .int l7), (8, .int l8), (10, .int w)] []) : GR κ p l e s m args below meth c rmX10_put 13 o v B' r 253 [(0, .ref o), (1, .int l1), (2, .int l2), (3, .int l3), (6, .int l6), (7, .int l7), (8, .int l8), (9, .int l9), (10, .int l10), (11, .int l11)] [] := by
  unfold fX10_put_L253 at h
  refine G_iload (pc' := 255) C dX10_put_253 9 rfl rfl ?_
  refine G_iload_n (pc' := 256) C dX10_put_255 3 rfl rfl ?_
  refine G_icmp_ge (tgt := 314) (pc' := 259) C dX10_put_256 (by decide) rfl (fun hc => ?_) (fun hc => ?_)
  · replace h := z_ip hc h
    exact G_sub [0, 1, 2, 3, 4, 5, 6, 8] rfl (kx _ (Option.some.inj h).symm)
  · replace h := z_in hc h
    refine G_aload_n (pc' := 260) C dX10_put_259 0 rfl rfl ?_
    refine R_g_waiting (pc' := 263) C dX10_put_260 rfl ?_
    refine G_iload (pc' := 265) C dX10_put_263 9 rfl rfl ?_
    obtain ⟨v20, hv20, h⟩ := ob h
    refine R_l_waiting (pc' := 266) C dX10_put_265 hv20 rfl ?_
    refine G_istore (pc' := 268) C dX10_put_266 [(12, .int v20), (0, .ref o), (1, .int l1), (2, .int l2), (3, .int l3), (6, .int l6), (7, .int l7), (8, .int l8), (9, .int l9), (10, .int l10), (11, .int l11)] (by decide) rfl rfl ?_
    refine G_iload (pc' := 270) C dX10_put_268 9 rfl rfl ?_
    refine G_aload_n (pc' := 271) C dX10_put_270 1 rfl rfl ?_
    refine G_iload (pc' := 273) C dX10_put_271 0 rfl rfl ?_
    refine G_iload (pc' := 275) C dX10_put_273 8 rfl rfl ?_
    refine G_iconst (pc' := 276) (v := (1 : Int32)) C dX10_put_275 (by decide) rfl ?_
    refine G_aload_n (pc' := 277) C dX10_put_276 1 rfl rfl ?_
    refine R_g_bits (pc' := 280) C dX10_put_277 rfl ?_
    refine G_iload (pc' := 282) C dX10_put_280 0 rfl rfl ?_
    obtain ⟨v21, hv21, h⟩ := ob h
    refine R_l_bits (pc' := 283) C dX10_put_282 hv21 rfl ?_
    refine G_ishl (pc' := 284) C dX10_put_283 rfl ?_
    refine G_iconst (pc' := 285) (v := (1 : Int32)) C dX10_put_284 (by decide) rfl ?_
    refine G_isub (pc' := 286) C dX10_put_285 rfl ?_
    refine G_iand (pc' := 287) C dX10_put_286 rfl ?_
    obtain ⟨q22, hq22, h⟩ := ob h
    refine G_cV0 (pc' := 290) C dX10_put_287 (tX10_say0 κ l o r v20 (l9 &&& (((1 : Int32) <<< (v21 &&& 31)) - (1 : Int32))) q22 hq22) (wV tw_ml_X10_123 tw_im_X10_say0 tw_se_X10_X10_say0 tw_in_X10 tw_co_X10_say0) yd_X10_say0 rfl fi_X10 (RB_rd 0 rfl) rfl rfl (by decide) rfl (Nat.le_of_ble_eq_true rfl) rfl rfl ?_
    refine G_iload (pc' := 292) C dX10_put_290 10 rfl rfl ?_
    refine G_ishl (pc' := 293) C dX10_put_292 rfl ?_
    refine G_ior (pc' := 294) C dX10_put_293 rfl ?_
    refine G_istore (pc' := 296) C dX10_put_294 [(10, .int (l10 ||| (q22 <<< (l11 &&& 31)))), (12, .int v20), (0, .ref o), (1, .int l1), (2, .int l2), (3, .int l3), (6, .int l6), (7, .int l7), (8, .int l8), (9, .int l9), (11, .int l11)] (by decide) rfl rfl ?_
    refine G_iload (pc' := 298) C dX10_put_296 9 rfl rfl ?_
    refine G_aload_n (pc' := 299) C dX10_put_298 2 rfl rfl ?_
    refine R_g_bits (pc' := 302) C dX10_put_299 rfl ?_
    refine G_iload (pc' := 304) C dX10_put_302 1 rfl rfl ?_
    obtain ⟨v23, hv23, h⟩ := ob h
    refine R_l_bits (pc' := 305) C dX10_put_304 hv23 rfl ?_
    refine G_ishr (pc' := 306) C dX10_put_305 rfl ?_
    refine G_istore (pc' := 308) C dX10_put_306 [(9, .int (l9 >>> (v23 &&& 31))), (10, .int (l10 ||| (q22 <<< (l11 &&& 31)))), (12, .int v20), (0, .ref o), (1, .int l1), (2, .int l2), (3, .int l3), (6, .int l6), (7, .int l7), (8, .int l8), (11, .int l11)] (by decide) rfl rfl ?_
    refine G_iinc (pc' := 311) C dX10_put_308 10 rfl rfl [(11, .int (l11 + (1 : Int32))), (9, .int (l9 >>> (v23 &&& 31))), (10, .int (l10 ||| (q22 <<< (l11 &&& 31)))), (12, .int v20), (0, .ref o), (1, .int l1), (2, .int l2), (3, .int l3), (6, .int l6), (7, .int l7), (8, .int l8)] (by decide) rfl rfl ?_
    refine G_goto (tgt := 253) C dX10_put_311 (by decide) ?_
    exact G_sub [4, 5, 6, 7, 8, 9, 10, 1, 2, 0] rfl (kc _ (Option.some.inj h).symm)
set_option maxHeartbeats 4000000 in
set_option maxRecDepth 100000 in
theorem tX10_put_L234 {κ : KK} {p : Program} {l : Launch} {e : Env} {s : State} {m : MethodId} {args : Array Value} {below : List Frame} {meth : Method} {c : Code} (C : Cx κ p s m args meth c cX10_put 13 RX10 (some .int)) {o : Nat} {v : Option Value} {B' : Heap → Prop} {r : RS} {l1 : Int32} {l2 : Int32} {l3 : Int32} {l6 : Int32} {l7 : Int32} {l8 : Int32} {y : (Int32 × RS) ⊕ RS} (h : fX10_put_L234 r l1 l2 l3 l6 l7 l8 = some y) (kc : ∀ u, y = .inl u → GR κ p l e s m args below meth c rmX10_put 13 o v B' u.2 234 [(0, .ref o), (1, .int l1), (2, .int l2), (3, .int l3), (6, .int l6), (7, .int l7), (8, .int u.1)] []) (kx : ∀ w, y = .inr w → GR κ p l e s m args below meth c rmX10_put 13 o v B' w 334 [(0, .ref o), (1, .int l1), (6, .int l6), (7, .int l7)] []) : GR κ p l e s m args below meth c rmX10_put 13 o v B' r 234 [(0, .ref o), (1, .int l1), (2, .int l2), (3, .int l3), (6, .int l6), (7, .int l7), (8, .int l8)] [] := by
  unfold fX10_put_L234 at h
  refine G_iload (pc' := 236) C dX10_put_234 6 rfl rfl ?_
  refine G_iconst (pc' := 237) (v := (1 : Int32)) C dX10_put_236 (by decide) rfl ?_
  refine G_iload (pc' := 239) C dX10_put_237 4 rfl rfl ?_
  refine G_ishl (pc' := 240) C dX10_put_239 rfl ?_
  refine G_icmp_ge (tgt := 334) (pc' := 243) C dX10_put_240 (by decide) rfl (fun hc => ?_) (fun hc => ?_)
  · replace h := z_ip hc h
    exact G_sub [0, 1, 4, 5] rfl (kx _ (Option.some.inj h).symm)
  · replace h := z_in hc h
    refine G_iload (pc' := 245) C dX10_put_243 6 rfl rfl ?_
    refine G_istore (pc' := 247) C dX10_put_245 [(9, .int l8), (0, .ref o), (1, .int l1), (2, .int l2), (3, .int l3), (6, .int l6), (7, .int l7), (8, .int l8)] (by decide) rfl rfl ?_
    refine G_iconst (pc' := 248) (v := (0 : Int32)) C dX10_put_247 (by decide) rfl ?_
    refine G_istore (pc' := 250) C dX10_put_248 [(10, .int (0 : Int32)), (9, .int l8), (0, .ref o), (1, .int l1), (2, .int l2), (3, .int l3), (6, .int l6), (7, .int l7), (8, .int l8)] (by decide) rfl rfl ?_
    refine G_iconst (pc' := 251) (v := (0 : Int32)) C dX10_put_250 (by decide) rfl ?_
    refine G_istore (pc' := 253) C dX10_put_251 [(11, .int (0 : Int32)), (10, .int (0 : Int32)), (9, .int l8), (0, .ref o), (1, .int l1), (2, .int l2), (3, .int l3), (6, .int l6), (7, .int l7), (8, .int l8)] (by decide) rfl rfl ?_
    obtain ⟨e24, hle24, h⟩ := ob h
    refine G_sub (lv' := [(0, .ref o), (1, .int l1), (2, .int l2), (3, .int l3), (6, .int l6), (7, .int l7), (8, .int l8), (9, .int l8), (10, .int (0 : Int32)), (11, .int (0 : Int32))]) [3, 4, 5, 6, 7, 8, 9, 2, 1, 0] rfl ?_
    refine lpN_ind (P := fun u => GR κ p l e s m args below meth c rmX10_put 13 o v B' r 253 [(0, .ref o), (1, .int l1), (2, .int l2), (3, .int l3), (6, .int l6), (7, .int l7), (8, .int l8), (9, .int u.1), (10, .int u.2.1), (11, .int u.2.2)] []) (X := fun w => GR κ p l e s m args below meth c rmX10_put 13 o v B' r 314 [(0, .ref o), (1, .int l1), (2, .int l2), (3, .int l3), (6, .int l6), (7, .int l7), (8, .int l8), (10, .int w)] []) (fun u y hb kc kx => tX10_put_L253 C hb kc kx) _ _ _ hle24 ?_
    refine G_aload_n (pc' := 315) C dX10_put_314 0 rfl rfl ?_
    refine R_g_made (pc' := 318) C dX10_put_315 rfl ?_
    refine G_iload (pc' := 320) C dX10_put_318 6 rfl rfl ?_
    refine G_aload_n (pc' := 321) C dX10_put_320 0 rfl rfl ?_
    refine G_iload_n (pc' := 322) C dX10_put_321 2 rfl rfl ?_
    refine G_iload (pc' := 324) C dX10_put_322 7 rfl rfl ?_
    obtain ⟨q25, hq25, h⟩ := ob h
    refine G_cV0 (pc' := 327) C dX10_put_324 (tX10_say0 κ l o r l2 e24 q25 hq25) (wV tw_ml_X10_123 tw_im_X10_say0 tw_se_X10_X10_say0 tw_in_X10 tw_co_X10_say0) yd_X10_say0 rfl fi_X10 (RB_rd 0 rfl) rfl rfl (by decide) rfl (Nat.le_of_ble_eq_true rfl) rfl rfl ?_
    obtain ⟨r26, hr26, h⟩ := ob h
    refine R_s_made (pc' := 328) C dX10_put_327 hr26 rfl ?_
    refine G_iinc (pc' := 331) C dX10_put_328 6 rfl rfl [(8, .int (l8 + (1 : Int32))), (0, .ref o), (1, .int l1), (2, .int l2), (3, .int l3), (6, .int l6), (7, .int l7), (10, .int e24)] (by decide) rfl rfl ?_
    refine G_goto (tgt := 234) C dX10_put_331 (by decide) ?_
    exact G_sub [1, 2, 3, 4, 5, 6, 0] rfl (kc _ (Option.some.inj h).symm)
set_option maxHeartbeats 4000000 in
set_option maxRecDepth 100000 in
theorem tX10_put (κ : KK) (l : Launch) (o : Nat) (r : RS) (a1 : Int32) (a2 : Int32) (q : Int32 × RS) (h : fX10_put r a1 a2 = some q) : MM κ l yX10_put cX10_put 13 (some .int) rmX10_put (RA o) [.ref o, .int a1, .int a2] (RB κ o r) (some (Value.int q.1)) (RB κ o q.2) := by
  refine MM.of (by decide +kernel) (Nat.le_of_ble_eq_true rfl) ?_
  intro p e s m below meth c C hnm
  have J111 : ∀ (r : RS) (l1 : Int32) (l2 : Int32) (l3 : Int32) (s0 : Int32), fX10_put_J111 r l1 l2 l3 s0 = some q → GR κ p l e s m ([.ref o, .int a1, .int a2] : List Value).toArray below meth c rmX10_put 13 o (some (Value.int q.1)) (RB κ o q.2) r 111 [(0, .ref o), (1, .int l1), (2, .int l2), (3, .int l3)] [.int s0] := by
    intro r l1 l2 l3 s0 h
    unfold fX10_put_J111 at h
    refine G_istore (pc' := 113) C dX10_put_111 [(5, .int s0), (0, .ref o), (1, .int l1), (2, .int l2), (3, .int l3)] (by decide) rfl rfl ?_
    refine G_iconst (pc' := 114) (v := (0 : Int32)) C dX10_put_113 (by decide) rfl ?_
    refine G_istore (pc' := 116) C dX10_put_114 [(6, .int (0 : Int32)), (5, .int s0), (0, .ref o), (1, .int l1), (2, .int l2), (3, .int l3)] (by decide) rfl rfl ?_
    refine G_iconst (pc' := 117) (v := (0 : Int32)) C dX10_put_116 (by decide) rfl ?_
    refine G_istore (pc' := 119) C dX10_put_117 [(7, .int (0 : Int32)), (6, .int (0 : Int32)), (5, .int s0), (0, .ref o), (1, .int l1), (2, .int l2), (3, .int l3)] (by decide) rfl rfl ?_
    refine G_iconst (pc' := 120) (v := (0 : Int32)) C dX10_put_119 (by decide) rfl ?_
    refine G_istore (pc' := 122) C dX10_put_120 [(8, .int (0 : Int32)), (7, .int (0 : Int32)), (6, .int (0 : Int32)), (5, .int s0), (0, .ref o), (1, .int l1), (2, .int l2), (3, .int l3)] (by decide) rfl rfl ?_
    obtain ⟨e18, hle18, h⟩ := ob h
    refine G_sub (lv' := [(0, .ref o), (1, .int l1), (2, .int l2), (3, .int l3), (5, .int s0), (6, .int (0 : Int32)), (7, .int (0 : Int32)), (8, .int (0 : Int32))]) [4, 5, 6, 7, 3, 2, 1, 0] rfl ?_
    refine lpN_ind (P := fun u => GR κ p l e s m ([.ref o, .int a1, .int a2] : List Value).toArray below meth c rmX10_put 13 o (some (Value.int q.1)) (RB κ o q.2) u.2.2.2.2 122 [(0, .ref o), (1, .int l1), (2, .int l2), (3, .int l3), (5, .int u.1), (6, .int u.2.1), (7, .int u.2.2.1), (8, .int u.2.2.2.1)] []) (X := fun w => (∀ x, w = .inl x → GR κ p l e s m ([.ref o, .int a1, .int a2] : List Value).toArray below meth c rmX10_put 13 o (some (Value.int q.1)) (RB κ o q.2) x.2.2.2 213 [(0, .ref o), (1, .int l1), (2, .int l2), (3, .int l3), (5, .int x.1), (6, .int x.2.1), (7, .int x.2.2.1)] []) ∧ (∀ rt, w = .inr rt → (some (Value.int q.1)) = (some (Value.int rt.1)) ∧ (RB κ o q.2) = (RB κ o rt.2))) (fun u y hb kc kx => tX10_put_L122 C hb kc kx) _ _ _ hle18 ?_
    refine ⟨fun x19 hxx19 => ?_, fun rt hrt => ?_⟩
    · subst hxx19
      replace h := z_sl h
      refine G_iload (pc' := 215) C dX10_put_213 4 rfl rfl ?_
      refine G_if_eq (tgt := 221) (pc' := 218) C dX10_put_215 (by decide) rfl (fun hc => ?_) (fun hc => ?_)
      · replace h := z_ip hc h
        refine G_iload (pc' := 223) C dX10_put_221 5 rfl rfl ?_
        refine G_bipush (pc' := 225) (v := (8 : Int32)) C dX10_put_223 (by decide) rfl ?_
        refine G_icmp_le (tgt := 231) (pc' := 228) C dX10_put_225 (by decide) rfl (fun hc => ?_) (fun hc => ?_)
        · replace h := z_ip hc h
          refine G_iconst (pc' := 232) (v := (0 : Int32)) C dX10_put_231 (by decide) rfl ?_
          refine G_istore (pc' := 234) C dX10_put_232 [(8, .int (0 : Int32)), (0, .ref o), (1, .int l1), (2, .int l2), (3, .int l3), (5, .int x19.1), (6, .int x19.2.1), (7, .int x19.2.2.1)] (by decide) rfl rfl ?_
          obtain ⟨e27, hle27, h⟩ := ob h
          refine G_sub (lv' := [(0, .ref o), (1, .int l1), (2, .int l2), (3, .int l3), (6, .int x19.2.1), (7, .int x19.2.2.1), (8, .int (0 : Int32))]) [1, 2, 3, 4, 6, 7, 0] rfl ?_
          refine lpN_ind (P := fun u => GR κ p l e s m ([.ref o, .int a1, .int a2] : List Value).toArray below meth c rmX10_put 13 o (some (Value.int q.1)) (RB κ o q.2) u.2 234 [(0, .ref o), (1, .int l1), (2, .int l2), (3, .int l3), (6, .int x19.2.1), (7, .int x19.2.2.1), (8, .int u.1)] []) (X := fun w => GR κ p l e s m ([.ref o, .int a1, .int a2] : List Value).toArray below meth c rmX10_put 13 o (some (Value.int q.1)) (RB κ o q.2) w 334 [(0, .ref o), (1, .int l1), (6, .int x19.2.1), (7, .int x19.2.2.1)] []) (fun u y hb kc kx => tX10_put_L234 C hb kc kx) _ _ _ hle27 ?_
          refine G_aload_n (pc' := 335) C dX10_put_334 0 rfl rfl ?_
          refine G_iload_n (pc' := 336) C dX10_put_335 1 rfl rfl ?_
          refine G_iload (pc' := 338) C dX10_put_336 2 rfl rfl ?_
          refine G_iconst (pc' := 339) (v := (3 : Int32)) C dX10_put_338 (by decide) rfl ?_
          refine G_iload (pc' := 341) C dX10_put_339 3 rfl rfl ?_
          obtain ⟨q28, hq28, h⟩ := ob h
          refine G_cV0 (pc' := 344) C dX10_put_341 (tX10_lay κ l o e27 l1 x19.2.1 (3 : Int32) x19.2.2.1 q28 hq28) (wV tw_ml_X10_162 tw_im_X10_lay tw_se_X10_X10_lay tw_in_X10 tw_co_X10_lay) yd_X10_lay rfl fi_X10 (RB_rd 0 rfl) rfl rfl (by decide) rfl (Nat.le_of_ble_eq_true rfl) rfl rfl ?_
          refine G_iload (pc' := 346) C dX10_put_344 2 rfl rfl ?_
          obtain rfl := Option.some.inj h
          exact G_iret C dX10_put_346 (fun _ h => h)
        · replace h := z_in hc h
          refine G_bipush (pc' := 230) (v := (-5 : Int32)) C dX10_put_228 (by decide) rfl ?_
          obtain rfl := Option.some.inj h
          exact G_iret C dX10_put_230 (fun _ h => h)
      · replace h := z_in hc h
        refine G_bipush (pc' := 220) (v := (-4 : Int32)) C dX10_put_218 (by decide) rfl ?_
        obtain rfl := Option.some.inj h
        exact G_iret C dX10_put_220 (fun _ h => h)
    · subst hrt
      replace h := z_sr h
      obtain rfl := Option.some.inj h
      exact ⟨rfl, rfl⟩
  have J58 : ∀ (r : RS) (l1 : Int32) (l2 : Int32) (l3 : Int32) (s0 : Int32), fX10_put_J58 r l1 l2 l3 s0 = some q → GR κ p l e s m ([.ref o, .int a1, .int a2] : List Value).toArray below meth c rmX10_put 13 o (some (Value.int q.1)) (RB κ o q.2) r 58 [(0, .ref o), (1, .int l1), (2, .int l2), (3, .int l3)] [.int s0] := by
    intro r l1 l2 l3 s0 h
    unfold fX10_put_J58 at h
    refine G_istore (pc' := 60) C dX10_put_58 [(4, .int s0), (0, .ref o), (1, .int l1), (2, .int l2), (3, .int l3)] (by decide) rfl rfl ?_
    refine G_iconst (pc' := 61) (v := (0 : Int32)) C dX10_put_60 (by decide) rfl ?_
    refine G_istore (pc' := 63) C dX10_put_61 [(5, .int (0 : Int32)), (4, .int s0), (0, .ref o), (1, .int l1), (2, .int l2), (3, .int l3)] (by decide) rfl rfl ?_
    obtain ⟨e7, hle7, h⟩ := ob h
    refine G_sub (lv' := [(0, .ref o), (1, .int l1), (2, .int l2), (3, .int l3), (4, .int s0), (5, .int (0 : Int32))]) [2, 3, 4, 5, 1, 0] rfl ?_
    refine lpN_ind (P := fun u => GR κ p l e s m ([.ref o, .int a1, .int a2] : List Value).toArray below meth c rmX10_put 13 o (some (Value.int q.1)) (RB κ o q.2) r 63 [(0, .ref o), (1, .int l1), (2, .int l2), (3, .int l3), (4, .int u.1), (5, .int u.2)] []) (X := fun w => GR κ p l e s m ([.ref o, .int a1, .int a2] : List Value).toArray below meth c rmX10_put 13 o (some (Value.int q.1)) (RB κ o q.2) r 90 [(0, .ref o), (1, .int l1), (2, .int l2), (3, .int l3), (4, .int w)] []) (fun u y hb kc kx => tX10_put_L63 C hb kc kx) _ _ _ hle7 ?_
    refine G_iload (pc' := 92) C dX10_put_90 4 rfl rfl ?_
    refine G_if_ne (tgt := 98) (pc' := 95) C dX10_put_92 (by decide) rfl (fun hc => ?_) (fun hc => ?_)
    · replace h := z_in hc h
      refine G_aload_n (pc' := 99) C dX10_put_98 0 rfl rfl ?_
      refine G_iload_n (pc' := 100) C dX10_put_99 2 rfl rfl ?_
      obtain ⟨q8, hq8, h⟩ := ob h
      refine G_cV0 (pc' := 103) C dX10_put_100 (tX10_opens κ l o r l2 q8 hq8) (wV tw_ml_X10_130 tw_im_X10_opens tw_se_X10_X10_opens tw_in_X10 tw_co_X10_opens) yd_X10_opens rfl fi_X10 (RB_rd 0 rfl) rfl rfl (by decide) rfl (Nat.le_of_ble_eq_true rfl) rfl rfl ?_
      refine G_if_le (tgt := 110) (pc' := 106) C dX10_put_103 (by decide) rfl (fun hc => ?_) (fun hc => ?_)
      · replace h := z_ip hc h
        refine G_iconst (pc' := 111) (v := (0 : Int32)) C dX10_put_110 (by decide) rfl ?_
        exact G_sub [0, 1, 2, 3] rfl (J111 r l1 l2 l3 (0 : Int32) h)
      · replace h := z_in hc h
        refine G_iconst (pc' := 107) (v := (1 : Int32)) C dX10_put_106 (by decide) rfl ?_
        refine G_goto (tgt := 111) C dX10_put_107 (by decide) ?_
        exact G_sub [0, 1, 2, 3] rfl (J111 r l1 l2 l3 (1 : Int32) h)
    · replace h := z_ip hc h
      refine G_bipush (pc' := 97) (v := (-2 : Int32)) C dX10_put_95 (by decide) rfl ?_
      obtain rfl := Option.some.inj h
      exact G_iret C dX10_put_97 (fun _ h => h)
  have J24 : ∀ (r : RS), fX10_put_J24 r = some q → GR κ p l e s m ([.ref o, .int a1, .int a2] : List Value).toArray below meth c rmX10_put 13 o (some (Value.int q.1)) (RB κ o q.2) r 24 [] [] := by
    intro r h
    unfold fX10_put_J24 at h
    refine G_bipush (pc' := 26) (v := (-2 : Int32)) C dX10_put_24 (by decide) rfl ?_
    obtain rfl := Option.some.inj h
    exact G_iret C dX10_put_26 (fun _ h => h)
  unfold fX10_put at h
  refine G_sub (lv' := [(0, .ref o), (1, .int a1), (2, .int a2)]) [0, 1, 2] rfl ?_
  refine G_aload_n (pc' := 1) C dX10_put_0 0 rfl rfl ?_
  refine R_g_waits (pc' := 4) C dX10_put_1 rfl ?_
  refine G_istore_n (pc' := 5) C dX10_put_4 [(3, .int (r.1 1)), (0, .ref o), (1, .int a1), (2, .int a2)] (by decide) rfl rfl ?_
  refine G_aload_n (pc' := 6) C dX10_put_5 1 rfl rfl ?_
  refine G_iconst (pc' := 7) (v := (0 : Int32)) C dX10_put_6 (by decide) rfl ?_
  refine R_p_waits (pc' := 10) C dX10_put_7 rfl ?_
  refine G_iload_n (pc' := 11) C dX10_put_10 2 rfl rfl ?_
  obtain ⟨q1, hq1, h⟩ := ob h
  refine G_cS0 (pc' := 14) C dX10_put_11 (tX10_isPlace κ l (RA o) (RB κ o (rI r 1 (0 : Int32))) a1 q1 hq1) (wS tw_ml_X10_115 tw_st_X10_isPlace tw_co_X10_isPlace tw_in_X10) yd_X10_isPlace rfl rfl rfl (by decide) rfl (Nat.le_of_ble_eq_true rfl) rfl rfl ?_
  refine G_if_eq (tgt := 24) (pc' := 17) C dX10_put_14 (by decide) rfl (fun hc => ?_) (fun hc => ?_)
  · replace h := z_ip hc h
    exact G_sub [] rfl (J24 (rI r 1 (0 : Int32)) h)
  · replace h := z_in hc h
    refine G_iload_n (pc' := 18) C dX10_put_17 3 rfl rfl ?_
    obtain ⟨q2, hq2, h⟩ := ob h
    refine G_cS0 (pc' := 21) C dX10_put_18 (tX10_isPlace κ l (RA o) (RB κ o (rI r 1 (0 : Int32))) a2 q2 hq2) (wS tw_ml_X10_115 tw_st_X10_isPlace tw_co_X10_isPlace tw_in_X10) yd_X10_isPlace rfl rfl rfl (by decide) rfl (Nat.le_of_ble_eq_true rfl) rfl rfl ?_
    refine G_if_ne (tgt := 27) (pc' := 24) C dX10_put_21 (by decide) rfl (fun hc => ?_) (fun hc => ?_)
    · replace h := z_in hc h
      refine G_aload_n (pc' := 28) C dX10_put_27 1 rfl rfl ?_
      refine R_g_bits (pc' := 31) C dX10_put_28 rfl ?_
      refine G_iload_n (pc' := 32) C dX10_put_31 3 rfl rfl ?_
      obtain ⟨v3, hv3, h⟩ := ob h
      refine R_l_bits (pc' := 33) C dX10_put_32 hv3 rfl ?_
      refine G_if_ne (tgt := 43) (pc' := 36) C dX10_put_33 (by decide) rfl (fun hc => ?_) (fun hc => ?_)
      · replace h := z_in hc h
        refine G_iload_n (pc' := 44) C dX10_put_43 0 rfl rfl ?_
        refine G_aload_n (pc' := 45) C dX10_put_44 1 rfl rfl ?_
        refine R_g_bits (pc' := 48) C dX10_put_45 rfl ?_
        refine G_iload_n (pc' := 49) C dX10_put_48 3 rfl rfl ?_
        obtain ⟨v4, hv4, h⟩ := ob h
        refine R_l_bits (pc' := 50) C dX10_put_49 hv4 rfl ?_
        refine G_icmp_ne (tgt := 57) (pc' := 53) C dX10_put_50 (by decide) rfl (fun hc => ?_) (fun hc => ?_)
        · replace h := z_in hc h
          refine G_iconst (pc' := 58) (v := (0 : Int32)) C dX10_put_57 (by decide) rfl ?_
          exact G_sub [1, 2, 3, 0] rfl (J58 (rI r 1 (0 : Int32)) a1 a2 (r.1 1) (0 : Int32) h)
        · replace h := z_ip hc h
          refine G_iconst (pc' := 54) (v := (1 : Int32)) C dX10_put_53 (by decide) rfl ?_
          refine G_goto (tgt := 58) C dX10_put_54 (by decide) ?_
          exact G_sub [1, 2, 3, 0] rfl (J58 (rI r 1 (0 : Int32)) a1 a2 (r.1 1) (1 : Int32) h)
      · replace h := z_ip hc h
        refine G_aload_n (pc' := 37) C dX10_put_36 1 rfl rfl ?_
        refine G_bipush (pc' := 39) (v := (-10 : Int32)) C dX10_put_37 (by decide) rfl ?_
        obtain ⟨q29, hq29, h⟩ := ob h
        refine G_cV0 (pc' := 42) C dX10_put_39 (tX10_meet κ l o (rI r 1 (0 : Int32)) (-10 : Int32) q29 hq29) (wV tw_ml_X10_136 tw_im_X10_meet tw_se_X10_X10_meet tw_in_X10 tw_co_X10_meet) yd_X10_meet rfl fi_X10 (RB_rd 0 rfl) rfl rfl (by decide) rfl (Nat.le_of_ble_eq_true rfl) rfl rfl ?_
        obtain rfl := Option.some.inj h
        exact G_iret C dX10_put_42 (fun _ h => h)
    · replace h := z_ip hc h
      exact G_sub [] rfl (J24 (rI r 1 (0 : Int32)) h)
theorem dX10_formula_0 : decode cX10_formula 0 = .ok (.iconst 0, 1) := by decide +kernel
theorem dX10_formula_1 : decode cX10_formula 1 = .ok (.istore_n 3, 1) := by decide +kernel
theorem dX10_formula_2 : decode cX10_formula 2 = .ok (.iconst 0, 1) := by decide +kernel
theorem dX10_formula_3 : decode cX10_formula 3 = .ok (.istore 4, 2) := by decide +kernel
theorem dX10_formula_5 : decode cX10_formula 5 = .ok (.iload 4, 2) := by decide +kernel
theorem dX10_formula_7 : decode cX10_formula 7 = .ok (.iload_n 1, 1) := by decide +kernel
theorem dX10_formula_8 : decode cX10_formula 8 = .ok (.if_icmp .ge 155, 3) := by decide +kernel
theorem dX10_formula_11 : decode cX10_formula 11 = .ok (.aload_n 0, 1) := by decide +kernel
theorem dX10_formula_12 : decode cX10_formula 12 = .ok (.getfield 32, 3) := by decide +kernel
theorem dX10_formula_15 : decode cX10_formula 15 = .ok (.iload 4, 2) := by decide +kernel
theorem dX10_formula_17 : decode cX10_formula 17 = .ok (.iaload, 1) := by decide +kernel
theorem dX10_formula_18 : decode cX10_formula 18 = .ok (.istore 5, 2) := by decide +kernel
theorem dX10_formula_20 : decode cX10_formula 20 = .ok (.iload 5, 2) := by decide +kernel
theorem dX10_formula_22 : decode cX10_formula 22 = .ok (.ifCond .lt 28, 3) := by decide +kernel
theorem dX10_formula_25 : decode cX10_formula 25 = .ok (.iload 5, 2) := by decide +kernel
theorem dX10_formula_27 : decode cX10_formula 27 = .ok (.bipush 7, 2) := by decide +kernel
theorem dX10_formula_29 : decode cX10_formula 29 = .ok (.if_icmp .gt 21, 3) := by decide +kernel
theorem dX10_formula_32 : decode cX10_formula 32 = .ok (.aload_n 0, 1) := by decide +kernel
theorem dX10_formula_33 : decode cX10_formula 33 = .ok (.getfield 48, 3) := by decide +kernel
theorem dX10_formula_36 : decode cX10_formula 36 = .ok (.iload_n 3, 1) := by decide +kernel
theorem dX10_formula_37 : decode cX10_formula 37 = .ok (.iload_n 2, 1) := by decide +kernel
theorem dX10_formula_38 : decode cX10_formula 38 = .ok (.iload 5, 2) := by decide +kernel
theorem dX10_formula_40 : decode cX10_formula 40 = .ok (.ishr, 1) := by decide +kernel
theorem dX10_formula_41 : decode cX10_formula 41 = .ok (.iconst 1, 1) := by decide +kernel
theorem dX10_formula_42 : decode cX10_formula 42 = .ok (.iand, 1) := by decide +kernel
theorem dX10_formula_43 : decode cX10_formula 43 = .ok (.iastore, 1) := by decide +kernel
theorem dX10_formula_44 : decode cX10_formula 44 = .ok (.iinc 3 1, 3) := by decide +kernel
theorem dX10_formula_47 : decode cX10_formula 47 = .ok (.goto 110, 3) := by decide +kernel
theorem dX10_formula_50 : decode cX10_formula 50 = .ok (.iload 5, 2) := by decide +kernel
theorem dX10_formula_52 : decode cX10_formula 52 = .ok (.bipush 10, 2) := by decide +kernel
theorem dX10_formula_54 : decode cX10_formula 54 = .ok (.if_icmp .eq 10, 3) := by decide +kernel
theorem dX10_formula_57 : decode cX10_formula 57 = .ok (.iload 5, 2) := by decide +kernel
theorem dX10_formula_59 : decode cX10_formula 59 = .ok (.bipush 11, 2) := by decide +kernel
theorem dX10_formula_61 : decode cX10_formula 61 = .ok (.if_icmp .ne 62, 3) := by decide +kernel
theorem dX10_formula_64 : decode cX10_formula 64 = .ok (.iload_n 3, 1) := by decide +kernel
theorem dX10_formula_65 : decode cX10_formula 65 = .ok (.iconst 1, 1) := by decide +kernel
theorem dX10_formula_66 : decode cX10_formula 66 = .ok (.if_icmp .le 57, 3) := by decide +kernel
theorem dX10_formula_69 : decode cX10_formula 69 = .ok (.iinc 3 (-1), 3) := by decide +kernel
theorem dX10_formula_72 : decode cX10_formula 72 = .ok (.aload_n 0, 1) := by decide +kernel
theorem dX10_formula_73 : decode cX10_formula 73 = .ok (.getfield 48, 3) := by decide +kernel
theorem dX10_formula_76 : decode cX10_formula 76 = .ok (.iload_n 3, 1) := by decide +kernel
theorem dX10_formula_77 : decode cX10_formula 77 = .ok (.iconst 1, 1) := by decide +kernel
theorem dX10_formula_78 : decode cX10_formula 78 = .ok (.isub, 1) := by decide +kernel
theorem dX10_formula_79 : decode cX10_formula 79 = .ok (.iload 5, 2) := by decide +kernel
theorem dX10_formula_81 : decode cX10_formula 81 = .ok (.bipush 10, 2) := by decide +kernel
theorem dX10_formula_83 : decode cX10_formula 83 = .ok (.if_icmp .ne 21, 3) := by decide +kernel
theorem dX10_formula_86 : decode cX10_formula 86 = .ok (.aload_n 0, 1) := by decide +kernel
theorem dX10_formula_87 : decode cX10_formula 87 = .ok (.getfield 48, 3) := by decide +kernel
theorem dX10_formula_90 : decode cX10_formula 90 = .ok (.iload_n 3, 1) := by decide +kernel
theorem dX10_formula_91 : decode cX10_formula 91 = .ok (.iconst 1, 1) := by decide +kernel
theorem dX10_formula_92 : decode cX10_formula 92 = .ok (.isub, 1) := by decide +kernel
theorem dX10_formula_93 : decode cX10_formula 93 = .ok (.iaload, 1) := by decide +kernel
theorem dX10_formula_94 : decode cX10_formula 94 = .ok (.aload_n 0, 1) := by decide +kernel
theorem dX10_formula_95 : decode cX10_formula 95 = .ok (.getfield 48, 3) := by decide +kernel
theorem dX10_formula_98 : decode cX10_formula 98 = .ok (.iload_n 3, 1) := by decide +kernel
theorem dX10_formula_99 : decode cX10_formula 99 = .ok (.iaload, 1) := by decide +kernel
theorem dX10_formula_100 : decode cX10_formula 100 = .ok (.iand, 1) := by decide +kernel
theorem dX10_formula_101 : decode cX10_formula 101 = .ok (.goto 18, 3) := by decide +kernel
theorem dX10_formula_104 : decode cX10_formula 104 = .ok (.aload_n 0, 1) := by decide +kernel
theorem dX10_formula_105 : decode cX10_formula 105 = .ok (.getfield 48, 3) := by decide +kernel
theorem dX10_formula_108 : decode cX10_formula 108 = .ok (.iload_n 3, 1) := by decide +kernel
theorem dX10_formula_109 : decode cX10_formula 109 = .ok (.iconst 1, 1) := by decide +kernel
theorem dX10_formula_110 : decode cX10_formula 110 = .ok (.isub, 1) := by decide +kernel
theorem dX10_formula_111 : decode cX10_formula 111 = .ok (.iaload, 1) := by decide +kernel
theorem dX10_formula_112 : decode cX10_formula 112 = .ok (.aload_n 0, 1) := by decide +kernel
theorem dX10_formula_113 : decode cX10_formula 113 = .ok (.getfield 48, 3) := by decide +kernel
theorem dX10_formula_116 : decode cX10_formula 116 = .ok (.iload_n 3, 1) := by decide +kernel
theorem dX10_formula_117 : decode cX10_formula 117 = .ok (.iaload, 1) := by decide +kernel
theorem dX10_formula_118 : decode cX10_formula 118 = .ok (.ior, 1) := by decide +kernel
theorem dX10_formula_119 : decode cX10_formula 119 = .ok (.iastore, 1) := by decide +kernel
theorem dX10_formula_120 : decode cX10_formula 120 = .ok (.goto 37, 3) := by decide +kernel
theorem dX10_formula_123 : decode cX10_formula 123 = .ok (.iload 5, 2) := by decide +kernel
theorem dX10_formula_125 : decode cX10_formula 125 = .ok (.bipush 12, 2) := by decide +kernel
theorem dX10_formula_127 : decode cX10_formula 127 = .ok (.if_icmp .ne 28, 3) := by decide +kernel
theorem dX10_formula_130 : decode cX10_formula 130 = .ok (.iload_n 3, 1) := by decide +kernel
theorem dX10_formula_131 : decode cX10_formula 131 = .ok (.ifCond .le 24, 3) := by decide +kernel
theorem dX10_formula_134 : decode cX10_formula 134 = .ok (.aload_n 0, 1) := by decide +kernel
theorem dX10_formula_135 : decode cX10_formula 135 = .ok (.getfield 48, 3) := by decide +kernel
theorem dX10_formula_138 : decode cX10_formula 138 = .ok (.iload_n 3, 1) := by decide +kernel
theorem dX10_formula_139 : decode cX10_formula 139 = .ok (.iconst 1, 1) := by decide +kernel
theorem dX10_formula_140 : decode cX10_formula 140 = .ok (.isub, 1) := by decide +kernel
theorem dX10_formula_141 : decode cX10_formula 141 = .ok (.iconst 1, 1) := by decide +kernel
theorem dX10_formula_142 : decode cX10_formula 142 = .ok (.aload_n 0, 1) := by decide +kernel
theorem dX10_formula_143 : decode cX10_formula 143 = .ok (.getfield 48, 3) := by decide +kernel
theorem dX10_formula_146 : decode cX10_formula 146 = .ok (.iload_n 3, 1) := by decide +kernel
theorem dX10_formula_147 : decode cX10_formula 147 = .ok (.iconst 1, 1) := by decide +kernel
theorem dX10_formula_148 : decode cX10_formula 148 = .ok (.isub, 1) := by decide +kernel
theorem dX10_formula_149 : decode cX10_formula 149 = .ok (.iaload, 1) := by decide +kernel
theorem dX10_formula_150 : decode cX10_formula 150 = .ok (.isub, 1) := by decide +kernel
theorem dX10_formula_151 : decode cX10_formula 151 = .ok (.iastore, 1) := by decide +kernel
theorem dX10_formula_152 : decode cX10_formula 152 = .ok (.goto 5, 3) := by decide +kernel
theorem dX10_formula_155 : decode cX10_formula 155 = .ok (.iconst (-1), 1) := by decide +kernel
theorem dX10_formula_156 : decode cX10_formula 156 = .ok (.ireturn, 1) := by decide +kernel
theorem dX10_formula_157 : decode cX10_formula 157 = .ok (.iinc 4 1, 3) := by decide +kernel
theorem dX10_formula_160 : decode cX10_formula 160 = .ok (.goto (-155), 3) := by decide +kernel
theorem dX10_formula_163 : decode cX10_formula 163 = .ok (.iload_n 3, 1) := by decide +kernel
theorem dX10_formula_164 : decode cX10_formula 164 = .ok (.iconst 1, 1) := by decide +kernel
theorem dX10_formula_165 : decode cX10_formula 165 = .ok (.if_icmp .ne 12, 3) := by decide +kernel
theorem dX10_formula_168 : decode cX10_formula 168 = .ok (.aload_n 0, 1) := by decide +kernel
theorem dX10_formula_169 : decode cX10_formula 169 = .ok (.getfield 48, 3) := by decide +kernel
theorem dX10_formula_172 : decode cX10_formula 172 = .ok (.iconst 0, 1) := by decide +kernel
theorem dX10_formula_173 : decode cX10_formula 173 = .ok (.iaload, 1) := by decide +kernel
theorem dX10_formula_174 : decode cX10_formula 174 = .ok (.goto 4, 3) := by decide +kernel
theorem dX10_formula_177 : decode cX10_formula 177 = .ok (.iconst (-1), 1) := by decide +kernel
theorem dX10_formula_178 : decode cX10_formula 178 = .ok (.ireturn, 1) := by decide +kernel
abbrev rmX10_formula : Room := { frames := 0, cells := 0, slots := 0, locals := 0 }
theorem yd_X10_formula : yX10_formula.cls = RX10 ∧ yX10_formula.cls ≠ "java/lang/invoke/MethodHandle" ∧ yX10_formula.cls ≠ "java/lang/invoke/VarHandle" ∧ (parseMethodDescriptor yX10_formula.desc).map (fun d => d.parameters.length) = some 2 := by decide +kernel
def fX10_formula_L5_J157 (r : RS) (l1 : Int32) (l2 : Int32) (l3 : Int32) (l4 : Int32) : Option ((Int32 × Int32 × RS) ⊕ ((Int32 × RS) ⊕ (Int32 × RS))) :=
  some (.inl (l3, (l4 + (1 : Int32)), r))
def fX10_formula_L5_J155 (r : RS) : Option ((Int32 × Int32 × RS) ⊕ ((Int32 × RS) ⊕ (Int32 × RS))) :=
  some (.inr (.inr ((-1 : Int32), r)))
def fX10_formula_L5_J123 (r : RS) (l1 : Int32) (l2 : Int32) (l3 : Int32) (l4 : Int32) (l5 : Int32) : Option ((Int32 × Int32 × RS) ⊕ ((Int32 × RS) ⊕ (Int32 × RS))) :=
  if l5 = (12 : Int32) then
    if l3 ≤ 0 then
      fX10_formula_L5_J155 r
    else
      (aI 101 (r.2.1 10) (l3 - (1 : Int32))).bind fun v2 =>
      (sA r 10 101 (l3 - (1 : Int32)) ((1 : Int32) - v2)).bind fun r3 =>
      fX10_formula_L5_J157 r3 l1 l2 l3 l4
  else
    fX10_formula_L5_J155 r
def fX10_formula_L5_J119 (r : RS) (l1 : Int32) (l2 : Int32) (l3 : Int32) (l4 : Int32) (s0 : Int32) (s1 : Int32) : Option ((Int32 × Int32 × RS) ⊕ ((Int32 × RS) ⊕ (Int32 × RS))) :=
  (sA r 10 101 s1 s0).bind fun r6 =>
  fX10_formula_L5_J157 r6 l1 l2 l3 l4
def fX10_formula_L5_J64 (r : RS) (l1 : Int32) (l2 : Int32) (l3 : Int32) (l4 : Int32) (l5 : Int32) : Option ((Int32 × Int32 × RS) ⊕ ((Int32 × RS) ⊕ (Int32 × RS))) :=
  if l3 ≤ (1 : Int32) then
    fX10_formula_L5_J123 r l1 l2 l3 l4 l5
  else
    if l5 = (10 : Int32) then
      (aI 101 (r.2.1 10) ((l3 + (-1 : Int32)) - (1 : Int32))).bind fun v7 =>
      (aI 101 (r.2.1 10) (l3 + (-1 : Int32))).bind fun v8 =>
      fX10_formula_L5_J119 r l1 l2 (l3 + (-1 : Int32)) l4 (v7 &&& v8) ((l3 + (-1 : Int32)) - (1 : Int32))
    else
      (aI 101 (r.2.1 10) ((l3 + (-1 : Int32)) - (1 : Int32))).bind fun v4 =>
      (aI 101 (r.2.1 10) (l3 + (-1 : Int32))).bind fun v5 =>
      fX10_formula_L5_J119 r l1 l2 (l3 + (-1 : Int32)) l4 (v4 ||| v5) ((l3 + (-1 : Int32)) - (1 : Int32))
def fX10_formula_L5_J50 (r : RS) (l1 : Int32) (l2 : Int32) (l3 : Int32) (l4 : Int32) (l5 : Int32) : Option ((Int32 × Int32 × RS) ⊕ ((Int32 × RS) ⊕ (Int32 × RS))) :=
  if l5 = (10 : Int32) then
    fX10_formula_L5_J64 r l1 l2 l3 l4 l5
  else
    if l5 = (11 : Int32) then
      fX10_formula_L5_J64 r l1 l2 l3 l4 l5
    else
      fX10_formula_L5_J123 r l1 l2 l3 l4 l5
def fX10_formula_L5 (r : RS) (l1 : Int32) (l2 : Int32) (l3 : Int32) (l4 : Int32) : Option ((Int32 × Int32 × RS) ⊕ ((Int32 × RS) ⊕ (Int32 × RS))) :=
  if l1 ≤ l4 then
    some (.inr (.inl (l3, r)))
  else
    (aI 100 (r.2.1 7) l4).bind fun v1 =>
    if v1 < 0 then
      fX10_formula_L5_J50 r l1 l2 l3 l4 v1
    else
      if (7 : Int32) < v1 then
        fX10_formula_L5_J50 r l1 l2 l3 l4 v1
      else
        (sA r 10 101 l3 ((l2 >>> (v1 &&& 31)) &&& (1 : Int32))).bind fun r9 =>
        fX10_formula_L5_J157 r9 l1 l2 (l3 + (1 : Int32)) l4
def fX10_formula (r : RS) (a1 : Int32) (a2 : Int32) : Option (Int32 × RS) :=
  (lpN (fun u => fX10_formula_L5 u.2.2 a1 a2 u.1 u.2.1) bigN ((0 : Int32), (0 : Int32), r)).bind fun e10 =>
  sel e10 (fun x11 =>
    if x11.1 = (1 : Int32) then
      (aI 101 (x11.2.2.1 10) (0 : Int32)).bind fun v12 =>
      some (v12, x11.2)
    else
      some ((-1 : Int32), x11.2)
    ) (fun rt => some rt)
set_option maxHeartbeats 4000000 in
set_option maxRecDepth 100000 in
theorem tX10_formula_L5 {κ : KK} {p : Program} {l : Launch} {e : Env} {s : State} {m : MethodId} {args : Array Value} {below : List Frame} {meth : Method} {c : Code} (C : Cx κ p s m args meth c cX10_formula 6 RX10 (some .int)) {o : Nat} {v : Option Value} {B' : Heap → Prop} {r : RS} {l1 : Int32} {l2 : Int32} {l3 : Int32} {l4 : Int32} {y : (Int32 × Int32 × RS) ⊕ ((Int32 × RS) ⊕ (Int32 × RS))} (h : fX10_formula_L5 r l1 l2 l3 l4 = some y) (kc : ∀ u, y = .inl u → GR κ p l e s m args below meth c rmX10_formula 6 o v B' u.2.2 5 [(0, .ref o), (1, .int l1), (2, .int l2), (3, .int u.1), (4, .int u.2.1)] []) (kx : ∀ w, y = .inr w → (∀ x, w = .inl x → GR κ p l e s m args below meth c rmX10_formula 6 o v B' x.2 163 [(0, .ref o), (3, .int x.1)] []) ∧ (∀ rt, w = .inr rt → v = (some (Value.int rt.1)) ∧ B' = (RB κ o rt.2))) : GR κ p l e s m args below meth c rmX10_formula 6 o v B' r 5 [(0, .ref o), (1, .int l1), (2, .int l2), (3, .int l3), (4, .int l4)] [] := by
  have J157 : ∀ (r : RS) (l3 : Int32) (l4 : Int32), fX10_formula_L5_J157 r l1 l2 l3 l4 = some y → GR κ p l e s m args below meth c rmX10_formula 6 o v B' r 157 [(0, .ref o), (1, .int l1), (2, .int l2), (3, .int l3), (4, .int l4)] [] := by
    intro r l3 l4 h
    unfold fX10_formula_L5_J157 at h
    refine G_iinc (pc' := 160) C dX10_formula_157 4 rfl rfl [(4, .int (l4 + (1 : Int32))), (0, .ref o), (1, .int l1), (2, .int l2), (3, .int l3)] (by decide) rfl rfl ?_
    refine G_goto (tgt := 5) C dX10_formula_160 (by decide) ?_
    exact G_sub [1, 2, 3, 4, 0] rfl (kc _ (Option.some.inj h).symm)
  have J155 : ∀ (r : RS), fX10_formula_L5_J155 r = some y → GR κ p l e s m args below meth c rmX10_formula 6 o v B' r 155 [] [] := by
    intro r h
    unfold fX10_formula_L5_J155 at h
    refine G_iconst (pc' := 156) (v := (-1 : Int32)) C dX10_formula_155 (by decide) rfl ?_
    obtain ⟨hv, hB⟩ := (kx _ (Option.some.inj h).symm).2 _ rfl
    subst hv
    subst hB
    exact G_iret C dX10_formula_156 (fun _ h => h)
  have J123 : ∀ (r : RS) (l3 : Int32) (l4 : Int32) (l5 : Int32), fX10_formula_L5_J123 r l1 l2 l3 l4 l5 = some y → GR κ p l e s m args below meth c rmX10_formula 6 o v B' r 123 [(0, .ref o), (1, .int l1), (2, .int l2), (3, .int l3), (4, .int l4), (5, .int l5)] [] := by
    intro r l3 l4 l5 h
    unfold fX10_formula_L5_J123 at h
    refine G_iload (pc' := 125) C dX10_formula_123 5 rfl rfl ?_
    refine G_bipush (pc' := 127) (v := (12 : Int32)) C dX10_formula_125 (by decide) rfl ?_
    refine G_icmp_ne (tgt := 155) (pc' := 130) C dX10_formula_127 (by decide) rfl (fun hc => ?_) (fun hc => ?_)
    · replace h := z_in hc h
      exact G_sub [] rfl (J155 r h)
    · replace h := z_ip hc h
      refine G_iload_n (pc' := 131) C dX10_formula_130 3 rfl rfl ?_
      refine G_if_le (tgt := 155) (pc' := 134) C dX10_formula_131 (by decide) rfl (fun hc => ?_) (fun hc => ?_)
      · replace h := z_ip hc h
        exact G_sub [] rfl (J155 r h)
      · replace h := z_in hc h
        refine G_aload_n (pc' := 135) C dX10_formula_134 0 rfl rfl ?_
        refine R_g_pile (pc' := 138) C dX10_formula_135 rfl ?_
        refine G_iload_n (pc' := 139) C dX10_formula_138 3 rfl rfl ?_
        refine G_iconst (pc' := 140) (v := (1 : Int32)) C dX10_formula_139 (by decide) rfl ?_
        refine G_isub (pc' := 141) C dX10_formula_140 rfl ?_
        refine G_iconst (pc' := 142) (v := (1 : Int32)) C dX10_formula_141 (by decide) rfl ?_
        refine G_aload_n (pc' := 143) C dX10_formula_142 0 rfl rfl ?_
        refine R_g_pile (pc' := 146) C dX10_formula_143 rfl ?_
        refine G_iload_n (pc' := 147) C dX10_formula_146 3 rfl rfl ?_
        refine G_iconst (pc' := 148) (v := (1 : Int32)) C dX10_formula_147 (by decide) rfl ?_
        refine G_isub (pc' := 149) C dX10_formula_148 rfl ?_
        obtain ⟨v2, hv2, h⟩ := ob h
        refine R_l_pile (pc' := 150) C dX10_formula_149 hv2 rfl ?_
        refine G_isub (pc' := 151) C dX10_formula_150 rfl ?_
        obtain ⟨r3, hr3, h⟩ := ob h
        refine R_s_pile (pc' := 152) C dX10_formula_151 hr3 rfl ?_
        refine G_goto (tgt := 157) C dX10_formula_152 (by decide) ?_
        exact G_sub [0, 1, 2, 3, 4] rfl (J157 r3 l3 l4 h)
  have J119 : ∀ (r : RS) (l3 : Int32) (l4 : Int32) (s0 : Int32) (s1 : Int32), fX10_formula_L5_J119 r l1 l2 l3 l4 s0 s1 = some y → GR κ p l e s m args below meth c rmX10_formula 6 o v B' r 119 [(0, .ref o), (1, .int l1), (2, .int l2), (3, .int l3), (4, .int l4)] [.int s0, .int s1, .ref (o + 11)] := by
    intro r l3 l4 s0 s1 h
    unfold fX10_formula_L5_J119 at h
    obtain ⟨r6, hr6, h⟩ := ob h
    refine R_s_pile (pc' := 120) C dX10_formula_119 hr6 rfl ?_
    refine G_goto (tgt := 157) C dX10_formula_120 (by decide) ?_
    exact G_sub [0, 1, 2, 3, 4] rfl (J157 r6 l3 l4 h)
  have J64 : ∀ (r : RS) (l3 : Int32) (l4 : Int32) (l5 : Int32), fX10_formula_L5_J64 r l1 l2 l3 l4 l5 = some y → GR κ p l e s m args below meth c rmX10_formula 6 o v B' r 64 [(0, .ref o), (1, .int l1), (2, .int l2), (3, .int l3), (4, .int l4), (5, .int l5)] [] := by
    intro r l3 l4 l5 h
    unfold fX10_formula_L5_J64 at h
    refine G_iload_n (pc' := 65) C dX10_formula_64 3 rfl rfl ?_
    refine G_iconst (pc' := 66) (v := (1 : Int32)) C dX10_formula_65 (by decide) rfl ?_
    refine G_icmp_le (tgt := 123) (pc' := 69) C dX10_formula_66 (by decide) rfl (fun hc => ?_) (fun hc => ?_)
    · replace h := z_ip hc h
      exact G_sub [0, 1, 2, 3, 4, 5] rfl (J123 r l3 l4 l5 h)
    · replace h := z_in hc h
      refine G_iinc (pc' := 72) C dX10_formula_69 3 rfl rfl [(3, .int (l3 + (-1 : Int32))), (0, .ref o), (1, .int l1), (2, .int l2), (4, .int l4), (5, .int l5)] (by decide) rfl rfl ?_
      refine G_aload_n (pc' := 73) C dX10_formula_72 1 rfl rfl ?_
      refine R_g_pile (pc' := 76) C dX10_formula_73 rfl ?_
      refine G_iload_n (pc' := 77) C dX10_formula_76 0 rfl rfl ?_
      refine G_iconst (pc' := 78) (v := (1 : Int32)) C dX10_formula_77 (by decide) rfl ?_
      refine G_isub (pc' := 79) C dX10_formula_78 rfl ?_
      refine G_iload (pc' := 81) C dX10_formula_79 5 rfl rfl ?_
      refine G_bipush (pc' := 83) (v := (10 : Int32)) C dX10_formula_81 (by decide) rfl ?_
      refine G_icmp_ne (tgt := 104) (pc' := 86) C dX10_formula_83 (by decide) rfl (fun hc => ?_) (fun hc => ?_)
      · replace h := z_in hc h
        refine G_aload_n (pc' := 105) C dX10_formula_104 1 rfl rfl ?_
        refine R_g_pile (pc' := 108) C dX10_formula_105 rfl ?_
        refine G_iload_n (pc' := 109) C dX10_formula_108 0 rfl rfl ?_
        refine G_iconst (pc' := 110) (v := (1 : Int32)) C dX10_formula_109 (by decide) rfl ?_
        refine G_isub (pc' := 111) C dX10_formula_110 rfl ?_
        obtain ⟨v4, hv4, h⟩ := ob h
        refine R_l_pile (pc' := 112) C dX10_formula_111 hv4 rfl ?_
        refine G_aload_n (pc' := 113) C dX10_formula_112 1 rfl rfl ?_
        refine R_g_pile (pc' := 116) C dX10_formula_113 rfl ?_
        refine G_iload_n (pc' := 117) C dX10_formula_116 0 rfl rfl ?_
        obtain ⟨v5, hv5, h⟩ := ob h
        refine R_l_pile (pc' := 118) C dX10_formula_117 hv5 rfl ?_
        refine G_ior (pc' := 119) C dX10_formula_118 rfl ?_
        exact G_sub [1, 2, 3, 0, 4] rfl (J119 r (l3 + (-1 : Int32)) l4 (v4 ||| v5) ((l3 + (-1 : Int32)) - (1 : Int32)) h)
      · replace h := z_ip hc h
        refine G_aload_n (pc' := 87) C dX10_formula_86 1 rfl rfl ?_
        refine R_g_pile (pc' := 90) C dX10_formula_87 rfl ?_
        refine G_iload_n (pc' := 91) C dX10_formula_90 0 rfl rfl ?_
        refine G_iconst (pc' := 92) (v := (1 : Int32)) C dX10_formula_91 (by decide) rfl ?_
        refine G_isub (pc' := 93) C dX10_formula_92 rfl ?_
        obtain ⟨v7, hv7, h⟩ := ob h
        refine R_l_pile (pc' := 94) C dX10_formula_93 hv7 rfl ?_
        refine G_aload_n (pc' := 95) C dX10_formula_94 1 rfl rfl ?_
        refine R_g_pile (pc' := 98) C dX10_formula_95 rfl ?_
        refine G_iload_n (pc' := 99) C dX10_formula_98 0 rfl rfl ?_
        obtain ⟨v8, hv8, h⟩ := ob h
        refine R_l_pile (pc' := 100) C dX10_formula_99 hv8 rfl ?_
        refine G_iand (pc' := 101) C dX10_formula_100 rfl ?_
        refine G_goto (tgt := 119) C dX10_formula_101 (by decide) ?_
        exact G_sub [1, 2, 3, 0, 4] rfl (J119 r (l3 + (-1 : Int32)) l4 (v7 &&& v8) ((l3 + (-1 : Int32)) - (1 : Int32)) h)
  have J50 : ∀ (r : RS) (l3 : Int32) (l4 : Int32) (l5 : Int32), fX10_formula_L5_J50 r l1 l2 l3 l4 l5 = some y → GR κ p l e s m args below meth c rmX10_formula 6 o v B' r 50 [(0, .ref o), (1, .int l1), (2, .int l2), (3, .int l3), (4, .int l4), (5, .int l5)] [] := by
    intro r l3 l4 l5 h
    unfold fX10_formula_L5_J50 at h
    refine G_iload (pc' := 52) C dX10_formula_50 5 rfl rfl ?_
    refine G_bipush (pc' := 54) (v := (10 : Int32)) C dX10_formula_52 (by decide) rfl ?_
    refine G_icmp_eq (tgt := 64) (pc' := 57) C dX10_formula_54 (by decide) rfl (fun hc => ?_) (fun hc => ?_)
    · replace h := z_ip hc h
      exact G_sub [0, 1, 2, 3, 4, 5] rfl (J64 r l3 l4 l5 h)
    · replace h := z_in hc h
      refine G_iload (pc' := 59) C dX10_formula_57 5 rfl rfl ?_
      refine G_bipush (pc' := 61) (v := (11 : Int32)) C dX10_formula_59 (by decide) rfl ?_
      refine G_icmp_ne (tgt := 123) (pc' := 64) C dX10_formula_61 (by decide) rfl (fun hc => ?_) (fun hc => ?_)
      · replace h := z_in hc h
        exact G_sub [0, 1, 2, 3, 4, 5] rfl (J123 r l3 l4 l5 h)
      · replace h := z_ip hc h
        exact G_sub [0, 1, 2, 3, 4, 5] rfl (J64 r l3 l4 l5 h)
  unfold fX10_formula_L5 at h
  refine G_iload (pc' := 7) C dX10_formula_5 4 rfl rfl ?_
  refine G_iload_n (pc' := 8) C dX10_formula_7 1 rfl rfl ?_
  refine G_icmp_ge (tgt := 163) (pc' := 11) C dX10_formula_8 (by decide) rfl (fun hc => ?_) (fun hc => ?_)
  · replace h := z_ip hc h
    exact G_sub [0, 3] rfl ((kx _ (Option.some.inj h).symm).1 _ rfl)
  · replace h := z_in hc h
    refine G_aload_n (pc' := 12) C dX10_formula_11 0 rfl rfl ?_
    refine R_g_waiting (pc' := 15) C dX10_formula_12 rfl ?_
    refine G_iload (pc' := 17) C dX10_formula_15 4 rfl rfl ?_
    obtain ⟨v1, hv1, h⟩ := ob h
    refine R_l_waiting (pc' := 18) C dX10_formula_17 hv1 rfl ?_
    refine G_istore (pc' := 20) C dX10_formula_18 [(5, .int v1), (0, .ref o), (1, .int l1), (2, .int l2), (3, .int l3), (4, .int l4)] (by decide) rfl rfl ?_
    refine G_iload (pc' := 22) C dX10_formula_20 0 rfl rfl ?_
    refine G_if_lt (tgt := 50) (pc' := 25) C dX10_formula_22 (by decide) rfl (fun hc => ?_) (fun hc => ?_)
    · replace h := z_ip hc h
      exact G_sub [1, 2, 3, 4, 5, 0] rfl (J50 r l3 l4 v1 h)
    · replace h := z_in hc h
      refine G_iload (pc' := 27) C dX10_formula_25 0 rfl rfl ?_
      refine G_bipush (pc' := 29) (v := (7 : Int32)) C dX10_formula_27 (by decide) rfl ?_
      refine G_icmp_gt (tgt := 50) (pc' := 32) C dX10_formula_29 (by decide) rfl (fun hc => ?_) (fun hc => ?_)
      · replace h := z_ip hc h
        exact G_sub [1, 2, 3, 4, 5, 0] rfl (J50 r l3 l4 v1 h)
      · replace h := z_in hc h
        refine G_aload_n (pc' := 33) C dX10_formula_32 1 rfl rfl ?_
        refine R_g_pile (pc' := 36) C dX10_formula_33 rfl ?_
        refine G_iload_n (pc' := 37) C dX10_formula_36 4 rfl rfl ?_
        refine G_iload_n (pc' := 38) C dX10_formula_37 3 rfl rfl ?_
        refine G_iload (pc' := 40) C dX10_formula_38 0 rfl rfl ?_
        refine G_ishr (pc' := 41) C dX10_formula_40 rfl ?_
        refine G_iconst (pc' := 42) (v := (1 : Int32)) C dX10_formula_41 (by decide) rfl ?_
        refine G_iand (pc' := 43) C dX10_formula_42 rfl ?_
        obtain ⟨r9, hr9, h⟩ := ob h
        refine R_s_pile (pc' := 44) C dX10_formula_43 hr9 rfl ?_
        refine G_iinc (pc' := 47) C dX10_formula_44 4 rfl rfl [(3, .int (l3 + (1 : Int32))), (5, .int v1), (0, .ref o), (1, .int l1), (2, .int l2), (4, .int l4)] (by decide) rfl rfl ?_
        refine G_goto (tgt := 157) C dX10_formula_47 (by decide) ?_
        exact G_sub [2, 3, 4, 0, 5] rfl (J157 r9 (l3 + (1 : Int32)) l4 h)
set_option maxHeartbeats 4000000 in
set_option maxRecDepth 100000 in
theorem tX10_formula (κ : KK) (l : Launch) (o : Nat) (r : RS) (a1 : Int32) (a2 : Int32) (q : Int32 × RS) (h : fX10_formula r a1 a2 = some q) : MM κ l yX10_formula cX10_formula 6 (some .int) rmX10_formula (RA o) [.ref o, .int a1, .int a2] (RB κ o r) (some (Value.int q.1)) (RB κ o q.2) := by
  refine MM.of (by decide +kernel) (Nat.le_of_ble_eq_true rfl) ?_
  intro p e s m below meth c C hnm
  unfold fX10_formula at h
  refine G_sub (lv' := [(0, .ref o), (1, .int a1), (2, .int a2)]) [0, 1, 2] rfl ?_
  refine G_iconst (pc' := 1) (v := (0 : Int32)) C dX10_formula_0 (by decide) rfl ?_
  refine G_istore_n (pc' := 2) C dX10_formula_1 [(3, .int (0 : Int32)), (0, .ref o), (1, .int a1), (2, .int a2)] (by decide) rfl rfl ?_
  refine G_iconst (pc' := 3) (v := (0 : Int32)) C dX10_formula_2 (by decide) rfl ?_
  refine G_istore (pc' := 5) C dX10_formula_3 [(4, .int (0 : Int32)), (3, .int (0 : Int32)), (0, .ref o), (1, .int a1), (2, .int a2)] (by decide) rfl rfl ?_
  obtain ⟨e10, hle10, h⟩ := ob h
  refine G_sub (lv' := [(0, .ref o), (1, .int a1), (2, .int a2), (3, .int (0 : Int32)), (4, .int (0 : Int32))]) [2, 3, 4, 1, 0] rfl ?_
  refine lpN_ind (P := fun u => GR κ p l e s m ([.ref o, .int a1, .int a2] : List Value).toArray below meth c rmX10_formula 6 o (some (Value.int q.1)) (RB κ o q.2) u.2.2 5 [(0, .ref o), (1, .int a1), (2, .int a2), (3, .int u.1), (4, .int u.2.1)] []) (X := fun w => (∀ x, w = .inl x → GR κ p l e s m ([.ref o, .int a1, .int a2] : List Value).toArray below meth c rmX10_formula 6 o (some (Value.int q.1)) (RB κ o q.2) x.2 163 [(0, .ref o), (3, .int x.1)] []) ∧ (∀ rt, w = .inr rt → (some (Value.int q.1)) = (some (Value.int rt.1)) ∧ (RB κ o q.2) = (RB κ o rt.2))) (fun u y hb kc kx => tX10_formula_L5 C hb kc kx) _ _ _ hle10 ?_
  refine ⟨fun x11 hxx11 => ?_, fun rt hrt => ?_⟩
  · subst hxx11
    replace h := z_sl h
    refine G_iload_n (pc' := 164) C dX10_formula_163 1 rfl rfl ?_
    refine G_iconst (pc' := 165) (v := (1 : Int32)) C dX10_formula_164 (by decide) rfl ?_
    refine G_icmp_ne (tgt := 177) (pc' := 168) C dX10_formula_165 (by decide) rfl (fun hc => ?_) (fun hc => ?_)
    · replace h := z_in hc h
      refine G_iconst (pc' := 178) (v := (-1 : Int32)) C dX10_formula_177 (by decide) rfl ?_
      obtain rfl := Option.some.inj h
      exact G_iret C dX10_formula_178 (fun _ h => h)
    · replace h := z_ip hc h
      refine G_aload_n (pc' := 169) C dX10_formula_168 0 rfl rfl ?_
      refine R_g_pile (pc' := 172) C dX10_formula_169 rfl ?_
      refine G_iconst (pc' := 173) (v := (0 : Int32)) C dX10_formula_172 (by decide) rfl ?_
      obtain ⟨v12, hv12, h⟩ := ob h
      refine R_l_pile (pc' := 174) C dX10_formula_173 hv12 rfl ?_
      refine G_goto (tgt := 178) C dX10_formula_174 (by decide) ?_
      obtain rfl := Option.some.inj h
      exact G_iret C dX10_formula_178 (fun _ h => h)
  · subst hrt
    replace h := z_sr h
    obtain rfl := Option.some.inj h
    exact ⟨rfl, rfl⟩
