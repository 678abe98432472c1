theorem dX4_lower_0 : decode cX4_lower 0 = .ok (.iload_n 2, 1) := by decide +kernel
theorem dX4_lower_1 : decode cX4_lower 1 = .ok (.aload_n 0, 1) := by decide +kernel
theorem dX4_lower_2 : decode cX4_lower 2 = .ok (.getfield 9, 3) := by decide +kernel
theorem dX4_lower_5 : decode cX4_lower 5 = .ok (.iload_n 1, 1) := by decide +kernel
theorem dX4_lower_6 : decode cX4_lower 6 = .ok (.iaload, 1) := by decide +kernel
theorem dX4_lower_7 : decode cX4_lower 7 = .ok (.if_icmp .ge 21, 3) := by decide +kernel
theorem dX4_lower_10 : decode cX4_lower 10 = .ok (.aload_n 0, 1) := by decide +kernel
theorem dX4_lower_11 : decode cX4_lower 11 = .ok (.getfield 9, 3) := by decide +kernel
theorem dX4_lower_14 : decode cX4_lower 14 = .ok (.iload_n 1, 1) := by decide +kernel
theorem dX4_lower_15 : decode cX4_lower 15 = .ok (.iload_n 2, 1) := by decide +kernel
theorem dX4_lower_16 : decode cX4_lower 16 = .ok (.iastore, 1) := by decide +kernel
theorem dX4_lower_17 : decode cX4_lower 17 = .ok (.aload_n 0, 1) := by decide +kernel
theorem dX4_lower_18 : decode cX4_lower 18 = .ok (.getfield 9, 3) := by decide +kernel
theorem dX4_lower_21 : decode cX4_lower 21 = .ok (.sipush 255, 3) := by decide +kernel
theorem dX4_lower_24 : decode cX4_lower 24 = .ok (.iload_n 1, 1) := by decide +kernel
theorem dX4_lower_25 : decode cX4_lower 25 = .ok (.isub, 1) := by decide +kernel
theorem dX4_lower_26 : decode cX4_lower 26 = .ok (.iload_n 2, 1) := by decide +kernel
theorem dX4_lower_27 : decode cX4_lower 27 = .ok (.iastore, 1) := by decide +kernel
theorem dX4_lower_28 : decode cX4_lower 28 = .ok (.return_, 1) := by decide +kernel
theorem yd_X4_lower : yX4_lower.cls = RX4 ∧ yX4_lower.cls ≠ "java/lang/invoke/MethodHandle" ∧ yX4_lower.cls ≠ "java/lang/invoke/VarHandle" ∧ (parseMethodDescriptor yX4_lower.desc).map (fun d => d.parameters.length) = some 2 := by decide +kernel
abbrev rmX4_lower : Room := { frames := 0, cells := 0, slots := 0, locals := 0 }
def fX4_lower (o : Nat) (z : CS) (a1 : Int32) (a2 : Int32) : Option (CS) :=
  (aI 256 (z.2.1 16) a1).bind fun v1 =>
  if v1 ≤ a2 then
    some z
  else
    (csA z 16 256 a1 a2).bind fun z2 =>
    (csA z2 16 256 ((255 : Int32) - a1) a2).bind fun z3 =>
    some z3
set_option maxHeartbeats 4000000 in
set_option maxRecDepth 100000 in
theorem tX4_lower (κ : KK) (l : Launch) (o : Nat) (z : CS) (a1 : Int32) (a2 : Int32) (q : CS) (h : fX4_lower o z a1 a2 = some q) : MM κ l yX4_lower cX4_lower 3 none rmX4_lower (CA o) [.ref (o + 26), .int a1, .int a2] (CB κ o z) none (CB κ o q) := by
  refine MM.of (by decide +kernel) (Nat.le_of_ble_eq_true rfl) ?_
  intro p e s m below meth c C hnm
  unfold fX4_lower at h
  refine G_sub (lv' := [(0, .ref (o + 26)), (1, .int a1), (2, .int a2)]) [0, 1, 2] rfl ?_
  refine G_iload_n (pc' := 1) C dX4_lower_0 2 rfl rfl ?_
  refine G_aload_n (pc' := 2) C dX4_lower_1 0 rfl rfl ?_
  refine G_get (pc' := 5) (k := 0) C fi_X4 dX4_lower_2 tw_fl_X4_9 rfl (by decide) (CB_rd 26 rfl) rfl rfl ?_
  refine G_iload_n (pc' := 6) C dX4_lower_5 1 rfl rfl ?_
  replace h := ob h
  obtain ⟨v1, hv1, h⟩ := h
  refine G_ialdV (pc' := 7) C dX4_lower_6 (CB_rd 27 rfl) hv1 rfl ?_
  refine G_icmp_ge (tgt := 28) (pc' := 10) C dX4_lower_7 (by decide) rfl (fun hc => ?_) (fun hc => ?_)
  · replace h := z_ip hc h
    refine G_widen (k := rmX4_lower.cells) (n := rmX4_lower.slots) (by decide) (by decide) ?_
    obtain rfl := Option.some.inj h
    exact G_vret C dX4_lower_28 (fun _ h => h)
  · replace h := z_in hc h
    refine G_aload_n (pc' := 11) C dX4_lower_10 0 rfl rfl ?_
    refine G_get (pc' := 14) (k := 0) C fi_X4 dX4_lower_11 tw_fl_X4_9 rfl (by decide) (CB_rd 26 rfl) rfl rfl ?_
    refine G_iload_n (pc' := 15) C dX4_lower_14 1 rfl rfl ?_
    refine G_iload_n (pc' := 16) C dX4_lower_15 2 rfl rfl ?_
    replace h := ob h
    obtain ⟨z2, hz2, h⟩ := h
    refine C_s_27 (pc' := 17) C dX4_lower_16 hz2 rfl ?_
    refine G_aload_n (pc' := 18) C dX4_lower_17 0 rfl rfl ?_
    refine G_get (pc' := 21) (k := 0) C fi_X4 dX4_lower_18 tw_fl_X4_9 rfl (by decide) (CB_rd 26 rfl) rfl rfl ?_
    refine G_sipush (pc' := 24) (v := (255 : Int32)) C dX4_lower_21 (by decide) rfl ?_
    refine G_iload_n (pc' := 25) C dX4_lower_24 1 rfl rfl ?_
    refine G_isub (pc' := 26) C dX4_lower_25 rfl ?_
    refine G_iload_n (pc' := 27) C dX4_lower_26 2 rfl rfl ?_
    replace h := ob h
    obtain ⟨z3, hz3, h⟩ := h
    refine C_s_27 (pc' := 28) C dX4_lower_27 hz3 rfl ?_
    refine G_widen (k := rmX4_lower.cells) (n := rmX4_lower.slots) (by decide) (by decide) ?_
    obtain rfl := Option.some.inj h
    exact G_vret C dX4_lower_28 (fun _ h => h)
theorem dX4_joinTo_0 : decode cX4_joinTo 0 = .ok (.iconst 0, 1) := by decide +kernel
theorem dX4_joinTo_1 : decode cX4_joinTo 1 = .ok (.istore_n 2, 1) := by decide +kernel
theorem dX4_joinTo_2 : decode cX4_joinTo 2 = .ok (.iload_n 2, 1) := by decide +kernel
theorem dX4_joinTo_3 : decode cX4_joinTo 3 = .ok (.sipush 256, 3) := by decide +kernel
theorem dX4_joinTo_6 : decode cX4_joinTo 6 = .ok (.if_icmp .ge 73, 3) := by decide +kernel
theorem dX4_joinTo_9 : decode cX4_joinTo 9 = .ok (.aload_n 0, 1) := by decide +kernel
theorem dX4_joinTo_10 : decode cX4_joinTo 10 = .ok (.getfield 9, 3) := by decide +kernel
theorem dX4_joinTo_13 : decode cX4_joinTo 13 = .ok (.iload_n 2, 1) := by decide +kernel
theorem dX4_joinTo_14 : decode cX4_joinTo 14 = .ok (.iaload, 1) := by decide +kernel
theorem dX4_joinTo_15 : decode cX4_joinTo 15 = .ok (.ifCond .eq 58, 3) := by decide +kernel
theorem dX4_joinTo_18 : decode cX4_joinTo 18 = .ok (.iconst 2, 1) := by decide +kernel
theorem dX4_joinTo_19 : decode cX4_joinTo 19 = .ok (.aload_n 0, 1) := by decide +kernel
theorem dX4_joinTo_20 : decode cX4_joinTo 20 = .ok (.getfield 9, 3) := by decide +kernel
theorem dX4_joinTo_23 : decode cX4_joinTo 23 = .ok (.iload_n 2, 1) := by decide +kernel
theorem dX4_joinTo_24 : decode cX4_joinTo 24 = .ok (.iaload, 1) := by decide +kernel
theorem dX4_joinTo_25 : decode cX4_joinTo 25 = .ok (.imul, 1) := by decide +kernel
theorem dX4_joinTo_26 : decode cX4_joinTo 26 = .ok (.iload_n 1, 1) := by decide +kernel
theorem dX4_joinTo_27 : decode cX4_joinTo 27 = .ok (.if_icmp .le 6, 3) := by decide +kernel
theorem dX4_joinTo_30 : decode cX4_joinTo 30 = .ok (.goto 43, 3) := by decide +kernel
theorem dX4_joinTo_33 : decode cX4_joinTo 33 = .ok (.iconst 0, 1) := by decide +kernel
theorem dX4_joinTo_34 : decode cX4_joinTo 34 = .ok (.istore_n 3, 1) := by decide +kernel
theorem dX4_joinTo_35 : decode cX4_joinTo 35 = .ok (.iload_n 3, 1) := by decide +kernel
theorem dX4_joinTo_36 : decode cX4_joinTo 36 = .ok (.sipush 256, 3) := by decide +kernel
theorem dX4_joinTo_39 : decode cX4_joinTo 39 = .ok (.if_icmp .ge 34, 3) := by decide +kernel
theorem dX4_joinTo_42 : decode cX4_joinTo 42 = .ok (.aload_n 0, 1) := by decide +kernel
theorem dX4_joinTo_43 : decode cX4_joinTo 43 = .ok (.getfield 9, 3) := by decide +kernel
theorem dX4_joinTo_46 : decode cX4_joinTo 46 = .ok (.iload_n 2, 1) := by decide +kernel
theorem dX4_joinTo_47 : decode cX4_joinTo 47 = .ok (.iaload, 1) := by decide +kernel
theorem dX4_joinTo_48 : decode cX4_joinTo 48 = .ok (.aload_n 0, 1) := by decide +kernel
theorem dX4_joinTo_49 : decode cX4_joinTo 49 = .ok (.getfield 9, 3) := by decide +kernel
theorem dX4_joinTo_52 : decode cX4_joinTo 52 = .ok (.iload_n 3, 1) := by decide +kernel
theorem dX4_joinTo_53 : decode cX4_joinTo 53 = .ok (.iaload, 1) := by decide +kernel
theorem dX4_joinTo_54 : decode cX4_joinTo 54 = .ok (.iadd, 1) := by decide +kernel
theorem dX4_joinTo_55 : decode cX4_joinTo 55 = .ok (.iload_n 1, 1) := by decide +kernel
theorem dX4_joinTo_56 : decode cX4_joinTo 56 = .ok (.if_icmp .ne 11, 3) := by decide +kernel
theorem dX4_joinTo_59 : decode cX4_joinTo 59 = .ok (.aload_n 0, 1) := by decide +kernel
theorem dX4_joinTo_60 : decode cX4_joinTo 60 = .ok (.iload_n 2, 1) := by decide +kernel
theorem dX4_joinTo_61 : decode cX4_joinTo 61 = .ok (.iload_n 3, 1) := by decide +kernel
theorem dX4_joinTo_62 : decode cX4_joinTo 62 = .ok (.iand, 1) := by decide +kernel
theorem dX4_joinTo_63 : decode cX4_joinTo 63 = .ok (.iload_n 1, 1) := by decide +kernel
theorem dX4_joinTo_64 : decode cX4_joinTo 64 = .ok (.invokevirtual 32, 3) := by decide +kernel
theorem dX4_joinTo_67 : decode cX4_joinTo 67 = .ok (.iinc 3 1, 3) := by decide +kernel
theorem dX4_joinTo_70 : decode cX4_joinTo 70 = .ok (.goto (-35), 3) := by decide +kernel
theorem dX4_joinTo_73 : decode cX4_joinTo 73 = .ok (.iinc 2 1, 3) := by decide +kernel
theorem dX4_joinTo_76 : decode cX4_joinTo 76 = .ok (.goto (-74), 3) := by decide +kernel
theorem dX4_joinTo_79 : decode cX4_joinTo 79 = .ok (.return_, 1) := by decide +kernel
theorem yd_X4_joinTo : yX4_joinTo.cls = RX4 ∧ yX4_joinTo.cls ≠ "java/lang/invoke/MethodHandle" ∧ yX4_joinTo.cls ≠ "java/lang/invoke/VarHandle" ∧ (parseMethodDescriptor yX4_joinTo.desc).map (fun d => d.parameters.length) = some 1 := by decide +kernel
abbrev rmX4_joinTo : Room := { frames := 1, cells := 0, slots := 0, locals := 22 }
def fX4_joinTo_L35_J67 (o : Nat) (z : CS) (l1 : Int32) (l2 : Int32) (l3 : Int32) : Option ((Int32 × CS) ⊕ CS) :=
  some (.inl ((l3 + (1 : Int32)), z))
def fX4_joinTo_L35 (o : Nat) (z : CS) (l1 : Int32) (l2 : Int32) (l3 : Int32) : Option ((Int32 × CS) ⊕ CS) :=
  if (256 : Int32) ≤ l3 then
    some (.inr z)
  else
    (aI 256 (z.2.1 16) l2).bind fun v3 =>
    (aI 256 (z.2.1 16) l3).bind fun v4 =>
    if (v3 + v4) = l1 then
      (fX4_lower o z (l2 &&& l3) l1).bind fun q5 =>
      fX4_joinTo_L35_J67 o q5 l1 l2 l3
    else
      fX4_joinTo_L35_J67 o z l1 l2 l3
def fX4_joinTo_L2_J73 (o : Nat) (z : CS) (l1 : Int32) (l2 : Int32) : Option ((Int32 × CS) ⊕ CS) :=
  some (.inl ((l2 + (1 : Int32)), z))
def fX4_joinTo_L2 (o : Nat) (z : CS) (l1 : Int32) (l2 : Int32) : Option ((Int32 × CS) ⊕ CS) :=
  if (256 : Int32) ≤ l2 then
    some (.inr z)
  else
    (aI 256 (z.2.1 16) l2).bind fun v1 =>
    if v1 = 0 then
      fX4_joinTo_L2_J73 o z l1 l2
    else
      (aI 256 (z.2.1 16) l2).bind fun v2 =>
      if ((2 : Int32) * v2) ≤ l1 then
        (lpN (fun u => fX4_joinTo_L35 o u.2 l1 l2 u.1) bigN ((0 : Int32), z)).bind fun e6 =>
        fX4_joinTo_L2_J73 o e6 l1 l2
      else
        fX4_joinTo_L2_J73 o z l1 l2
def fX4_joinTo (o : Nat) (z : CS) (a1 : Int32) : Option (CS) :=
  (lpN (fun u => fX4_joinTo_L2 o u.2 a1 u.1) bigN ((0 : Int32), z)).bind fun e7 =>
  some e7
set_option maxHeartbeats 4000000 in
set_option maxRecDepth 100000 in
theorem tX4_joinTo_L35 {κ : KK} {p : Program} {l : Launch} {e : Env} {s : State} {m : MethodId} {args : Array Value} {below : List Frame} {meth : Method} {c : Code} (C : Cx κ p s m args meth c cX4_joinTo 4 RX4 none) {o : Nat} {v : Option Value} {B' : Heap → Prop} {z : CS} {l1 : Int32} {l2 : Int32} {l3 : Int32} {y : (Int32 × CS) ⊕ CS} (h : fX4_joinTo_L35 o z l1 l2 l3 = some y) (kc : ∀ u, y = .inl u → GC κ p l e s m args below meth c rmX4_joinTo 4 o v B' 0 0 u.2 35 [(0, .ref (o + 26)), (1, .int l1), (2, .int l2), (3, .int u.1)] []) (kx : ∀ w, y = .inr w → GC κ p l e s m args below meth c rmX4_joinTo 4 o v B' 0 0 w 73 [(0, .ref (o + 26)), (1, .int l1), (2, .int l2)] []) : GC κ p l e s m args below meth c rmX4_joinTo 4 o v B' 0 0 z 35 [(0, .ref (o + 26)), (1, .int l1), (2, .int l2), (3, .int l3)] [] := by
  have J67 : ∀ (z : CS) (l3 : Int32), fX4_joinTo_L35_J67 o z l1 l2 l3 = some y → GC κ p l e s m args below meth c rmX4_joinTo 4 o v B' 0 0 z 67 [(0, .ref (o + 26)), (1, .int l1), (2, .int l2), (3, .int l3)] [] := by
    intro z l3 h
    unfold fX4_joinTo_L35_J67 at h
    refine G_iinc (pc' := 70) C dX4_joinTo_67 3 rfl rfl [(3, .int (l3 + (1 : Int32))), (0, .ref (o + 26)), (1, .int l1), (2, .int l2)] (by decide) rfl rfl ?_
    refine G_goto (tgt := 35) C dX4_joinTo_70 (by decide) ?_
    exact G_sub (lv' := [(0, .ref (o + 26)), (1, .int l1), (2, .int l2), (3, .int (l3 + (1 : Int32)))]) [1, 2, 3, 0] rfl (kc ((l3 + (1 : Int32)), z) (Option.some.inj h).symm)
  unfold fX4_joinTo_L35 at h
  refine G_iload_n (pc' := 36) C dX4_joinTo_35 3 rfl rfl ?_
  refine G_sipush (pc' := 39) (v := (256 : Int32)) C dX4_joinTo_36 (by decide) rfl ?_
  refine G_icmp_ge (tgt := 73) (pc' := 42) C dX4_joinTo_39 (by decide) rfl (fun hc => ?_) (fun hc => ?_)
  · replace h := z_ip hc h
    exact G_sub (lv' := [(0, .ref (o + 26)), (1, .int l1), (2, .int l2)]) [0, 1, 2] rfl (kx _ (Option.some.inj h).symm)
  · replace h := z_in hc h
    refine G_aload_n (pc' := 43) C dX4_joinTo_42 0 rfl rfl ?_
    refine G_get (pc' := 46) (k := 0) C fi_X4 dX4_joinTo_43 tw_fl_X4_9 rfl (by decide) (CB_rd 26 rfl) rfl rfl ?_
    refine G_iload_n (pc' := 47) C dX4_joinTo_46 2 rfl rfl ?_
    replace h := ob h
    obtain ⟨v3, hv3, h⟩ := h
    refine G_ialdV (pc' := 48) C dX4_joinTo_47 (CB_rd 27 rfl) hv3 rfl ?_
    refine G_aload_n (pc' := 49) C dX4_joinTo_48 0 rfl rfl ?_
    refine G_get (pc' := 52) (k := 0) C fi_X4 dX4_joinTo_49 tw_fl_X4_9 rfl (by decide) (CB_rd 26 rfl) rfl rfl ?_
    refine G_iload_n (pc' := 53) C dX4_joinTo_52 3 rfl rfl ?_
    replace h := ob h
    obtain ⟨v4, hv4, h⟩ := h
    refine G_ialdV (pc' := 54) C dX4_joinTo_53 (CB_rd 27 rfl) hv4 rfl ?_
    refine G_iadd (pc' := 55) C dX4_joinTo_54 rfl ?_
    refine G_iload_n (pc' := 56) C dX4_joinTo_55 1 rfl rfl ?_
    refine G_icmp_ne (tgt := 67) (pc' := 59) C dX4_joinTo_56 (by decide) rfl (fun hc => ?_) (fun hc => ?_)
    · replace h := z_in hc h
      exact G_sub (lv' := [(0, .ref (o + 26)), (1, .int l1), (2, .int l2), (3, .int l3)]) [0, 1, 2, 3] rfl (J67 z l3 h)
    · replace h := z_ip hc h
      refine G_aload_n (pc' := 60) C dX4_joinTo_59 0 rfl rfl ?_
      refine G_iload_n (pc' := 61) C dX4_joinTo_60 2 rfl rfl ?_
      refine G_iload_n (pc' := 62) C dX4_joinTo_61 3 rfl rfl ?_
      refine G_iand (pc' := 63) C dX4_joinTo_62 rfl ?_
      refine G_iload_n (pc' := 64) C dX4_joinTo_63 1 rfl rfl ?_
      replace h := ob h
      obtain ⟨q5, hq5, h⟩ := h
      refine G_cV0 (pc' := 67) C dX4_joinTo_64 (tX4_lower κ l o z (l2 &&& l3) l1 q5 hq5) (wV tw_ml_X4_32 tw_im_X4_lower tw_se_X4_X4_lower tw_in_X4 tw_co_X4_lower) yd_X4_lower rfl fi_X4 (CB_rd 26 rfl) rfl rfl (by decide) rfl (Nat.le_of_ble_eq_true rfl) rfl rfl ?_
      exact G_sub (lv' := [(0, .ref (o + 26)), (1, .int l1), (2, .int l2), (3, .int l3)]) [0, 1, 2, 3] rfl (J67 q5 l3 h)
set_option maxHeartbeats 4000000 in
set_option maxRecDepth 100000 in
theorem tX4_joinTo_L2 {κ : KK} {p : Program} {l : Launch} {e : Env} {s : State} {m : MethodId} {args : Array Value} {below : List Frame} {meth : Method} {c : Code} (C : Cx κ p s m args meth c cX4_joinTo 4 RX4 none) {o : Nat} {v : Option Value} {B' : Heap → Prop} {z : CS} {l1 : Int32} {l2 : Int32} {y : (Int32 × CS) ⊕ CS} (h : fX4_joinTo_L2 o z l1 l2 = some y) (kc : ∀ u, y = .inl u → GC κ p l e s m args below meth c rmX4_joinTo 4 o v B' 0 0 u.2 2 [(0, .ref (o + 26)), (1, .int l1), (2, .int u.1)] []) (kx : ∀ w, y = .inr w → GC κ p l e s m args below meth c rmX4_joinTo 4 o v B' 0 0 w 79 [] []) : GC κ p l e s m args below meth c rmX4_joinTo 4 o v B' 0 0 z 2 [(0, .ref (o + 26)), (1, .int l1), (2, .int l2)] [] := by
  have J73 : ∀ (z : CS) (l2 : Int32), fX4_joinTo_L2_J73 o z l1 l2 = some y → GC κ p l e s m args below meth c rmX4_joinTo 4 o v B' 0 0 z 73 [(0, .ref (o + 26)), (1, .int l1), (2, .int l2)] [] := by
    intro z l2 h
    unfold fX4_joinTo_L2_J73 at h
    refine G_iinc (pc' := 76) C dX4_joinTo_73 2 rfl rfl [(2, .int (l2 + (1 : Int32))), (0, .ref (o + 26)), (1, .int l1)] (by decide) rfl rfl ?_
    refine G_goto (tgt := 2) C dX4_joinTo_76 (by decide) ?_
    exact G_sub (lv' := [(0, .ref (o + 26)), (1, .int l1), (2, .int (l2 + (1 : Int32)))]) [1, 2, 0] rfl (kc ((l2 + (1 : Int32)), z) (Option.some.inj h).symm)
  unfold fX4_joinTo_L2 at h
  refine G_iload_n (pc' := 3) C dX4_joinTo_2 2 rfl rfl ?_
  refine G_sipush (pc' := 6) (v := (256 : Int32)) C dX4_joinTo_3 (by decide) rfl ?_
  refine G_icmp_ge (tgt := 79) (pc' := 9) C dX4_joinTo_6 (by decide) rfl (fun hc => ?_) (fun hc => ?_)
  · replace h := z_ip hc h
    exact G_sub (lv' := []) [] rfl (kx _ (Option.some.inj h).symm)
  · replace h := z_in hc h
    refine G_aload_n (pc' := 10) C dX4_joinTo_9 0 rfl rfl ?_
    refine G_get (pc' := 13) (k := 0) C fi_X4 dX4_joinTo_10 tw_fl_X4_9 rfl (by decide) (CB_rd 26 rfl) rfl rfl ?_
    refine G_iload_n (pc' := 14) C dX4_joinTo_13 2 rfl rfl ?_
    replace h := ob h
    obtain ⟨v1, hv1, h⟩ := h
    refine G_ialdV (pc' := 15) C dX4_joinTo_14 (CB_rd 27 rfl) hv1 rfl ?_
    refine G_if_eq (tgt := 73) (pc' := 18) C dX4_joinTo_15 (by decide) rfl (fun hc => ?_) (fun hc => ?_)
    · replace h := z_ip hc h
      exact G_sub (lv' := [(0, .ref (o + 26)), (1, .int l1), (2, .int l2)]) [0, 1, 2] rfl (J73 z l2 h)
    · replace h := z_in hc h
      refine G_iconst (pc' := 19) (v := (2 : Int32)) C dX4_joinTo_18 (by decide) rfl ?_
      refine G_aload_n (pc' := 20) C dX4_joinTo_19 0 rfl rfl ?_
      refine G_get (pc' := 23) (k := 0) C fi_X4 dX4_joinTo_20 tw_fl_X4_9 rfl (by decide) (CB_rd 26 rfl) rfl rfl ?_
      refine G_iload_n (pc' := 24) C dX4_joinTo_23 2 rfl rfl ?_
      replace h := ob h
      obtain ⟨v2, hv2, h⟩ := h
      refine G_ialdV (pc' := 25) C dX4_joinTo_24 (CB_rd 27 rfl) hv2 rfl ?_
      refine G_imul (pc' := 26) C dX4_joinTo_25 rfl ?_
      refine G_iload_n (pc' := 27) C dX4_joinTo_26 1 rfl rfl ?_
      refine G_icmp_le (tgt := 33) (pc' := 30) C dX4_joinTo_27 (by decide) rfl (fun hc => ?_) (fun hc => ?_)
      · replace h := z_ip hc h
        refine G_iconst (pc' := 34) (v := (0 : Int32)) C dX4_joinTo_33 (by decide) rfl ?_
        refine G_istore_n (pc' := 35) C dX4_joinTo_34 [(3, .int (0 : Int32)), (0, .ref (o + 26)), (1, .int l1), (2, .int l2)] (by decide) rfl rfl ?_
        replace h := ob h
        obtain ⟨e6, hle6, h⟩ := h
        refine G_sub (lv' := [(0, .ref (o + 26)), (1, .int l1), (2, .int l2), (3, .int (0 : Int32))]) [1, 2, 3, 0] rfl ?_
        refine lpN_ind (body := fun u => fX4_joinTo_L35 o u.2 l1 l2 u.1) (P := fun u => GC κ p l e s m args below meth c rmX4_joinTo 4 o v B' 0 0 u.2 35 [(0, .ref (o + 26)), (1, .int l1), (2, .int l2), (3, .int u.1)] []) (X := fun w => GC κ p l e s m args below meth c rmX4_joinTo 4 o v B' 0 0 w 73 [(0, .ref (o + 26)), (1, .int l1), (2, .int l2)] []) (fun u y hb kc kx => tX4_joinTo_L35 C hb kc kx) _ _ _ hle6 ?_
        exact G_sub (lv' := [(0, .ref (o + 26)), (1, .int l1), (2, .int l2)]) [0, 1, 2] rfl (J73 e6 l2 h)
      · replace h := z_in hc h
        refine G_goto (tgt := 73) C dX4_joinTo_30 (by decide) ?_
        exact G_sub (lv' := [(0, .ref (o + 26)), (1, .int l1), (2, .int l2)]) [0, 1, 2] rfl (J73 z l2 h)
set_option maxHeartbeats 4000000 in
set_option maxRecDepth 100000 in
theorem tX4_joinTo (κ : KK) (l : Launch) (o : Nat) (z : CS) (a1 : Int32) (q : CS) (h : fX4_joinTo o z a1 = some q) : MM κ l yX4_joinTo cX4_joinTo 4 none rmX4_joinTo (CA o) [.ref (o + 26), .int a1] (CB κ o z) none (CB κ o q) := by
  refine MM.of (by decide +kernel) (Nat.le_of_ble_eq_true rfl) ?_
  intro p e s m below meth c C hnm
  unfold fX4_joinTo at h
  refine G_sub (lv' := [(0, .ref (o + 26)), (1, .int a1)]) [0, 1] rfl ?_
  refine G_iconst (pc' := 1) (v := (0 : Int32)) C dX4_joinTo_0 (by decide) rfl ?_
  refine G_istore_n (pc' := 2) C dX4_joinTo_1 [(2, .int (0 : Int32)), (0, .ref (o + 26)), (1, .int a1)] (by decide) rfl rfl ?_
  replace h := ob h
  obtain ⟨e7, hle7, h⟩ := h
  refine G_sub (lv' := [(0, .ref (o + 26)), (1, .int a1), (2, .int (0 : Int32))]) [1, 2, 0] rfl ?_
  refine lpN_ind (body := fun u => fX4_joinTo_L2 o u.2 a1 u.1) (P := fun u => GC κ p l e s m ([.ref (o + 26), .int a1] : List Value).toArray below meth c rmX4_joinTo 4 o none (CB κ o q) 0 0 u.2 2 [(0, .ref (o + 26)), (1, .int a1), (2, .int u.1)] []) (X := fun w => GC κ p l e s m ([.ref (o + 26), .int a1] : List Value).toArray below meth c rmX4_joinTo 4 o none (CB κ o q) 0 0 w 79 [] []) (fun u y hb kc kx => tX4_joinTo_L2 C hb kc kx) _ _ _ hle7 ?_
  refine G_widen (k := rmX4_joinTo.cells) (n := rmX4_joinTo.slots) (by decide) (by decide) ?_
  obtain rfl := Option.some.inj h
  exact G_vret C dX4_joinTo_79 (fun _ h => h)
theorem dX4_learn_0 : decode cX4_learn 0 = .ok (.aload_n 0, 1) := by decide +kernel
theorem dX4_learn_1 : decode cX4_learn 1 = .ok (.getfield 9, 3) := by decide +kernel
theorem dX4_learn_4 : decode cX4_learn 4 = .ok (.bipush 99, 2) := by decide +kernel
theorem dX4_learn_6 : decode cX4_learn 6 = .ok (.invokestatic 26, 3) := by decide +kernel
theorem dX4_learn_9 : decode cX4_learn 9 = .ok (.aload_n 0, 1) := by decide +kernel
theorem dX4_learn_10 : decode cX4_learn 10 = .ok (.iconst 0, 1) := by decide +kernel
theorem dX4_learn_11 : decode cX4_learn 11 = .ok (.iconst 0, 1) := by decide +kernel
theorem dX4_learn_12 : decode cX4_learn 12 = .ok (.invokevirtual 32, 3) := by decide +kernel
theorem dX4_learn_15 : decode cX4_learn 15 = .ok (.aload_n 0, 1) := by decide +kernel
theorem dX4_learn_16 : decode cX4_learn 16 = .ok (.sipush 170, 3) := by decide +kernel
theorem dX4_learn_19 : decode cX4_learn 19 = .ok (.iconst 1, 1) := by decide +kernel
theorem dX4_learn_20 : decode cX4_learn 20 = .ok (.invokevirtual 32, 3) := by decide +kernel
theorem dX4_learn_23 : decode cX4_learn 23 = .ok (.aload_n 0, 1) := by decide +kernel
theorem dX4_learn_24 : decode cX4_learn 24 = .ok (.sipush 204, 3) := by decide +kernel
theorem dX4_learn_27 : decode cX4_learn 27 = .ok (.iconst 1, 1) := by decide +kernel
theorem dX4_learn_28 : decode cX4_learn 28 = .ok (.invokevirtual 32, 3) := by decide +kernel
theorem dX4_learn_31 : decode cX4_learn 31 = .ok (.aload_n 0, 1) := by decide +kernel
theorem dX4_learn_32 : decode cX4_learn 32 = .ok (.sipush 240, 3) := by decide +kernel
theorem dX4_learn_35 : decode cX4_learn 35 = .ok (.iconst 1, 1) := by decide +kernel
theorem dX4_learn_36 : decode cX4_learn 36 = .ok (.invokevirtual 32, 3) := by decide +kernel
theorem dX4_learn_39 : decode cX4_learn 39 = .ok (.iconst 2, 1) := by decide +kernel
theorem dX4_learn_40 : decode cX4_learn 40 = .ok (.istore_n 1, 1) := by decide +kernel
theorem dX4_learn_41 : decode cX4_learn 41 = .ok (.iload_n 1, 1) := by decide +kernel
theorem dX4_learn_42 : decode cX4_learn 42 = .ok (.bipush 10, 2) := by decide +kernel
theorem dX4_learn_44 : decode cX4_learn 44 = .ok (.if_icmp .gt 14, 3) := by decide +kernel
theorem dX4_learn_47 : decode cX4_learn 47 = .ok (.aload_n 0, 1) := by decide +kernel
theorem dX4_learn_48 : decode cX4_learn 48 = .ok (.iload_n 1, 1) := by decide +kernel
theorem dX4_learn_49 : decode cX4_learn 49 = .ok (.invokevirtual 36, 3) := by decide +kernel
theorem dX4_learn_52 : decode cX4_learn 52 = .ok (.iinc 1 1, 3) := by decide +kernel
theorem dX4_learn_55 : decode cX4_learn 55 = .ok (.goto (-14), 3) := by decide +kernel
theorem dX4_learn_58 : decode cX4_learn 58 = .ok (.return_, 1) := by decide +kernel
theorem yd_X4_learn : yX4_learn.cls = RX4 ∧ yX4_learn.cls ≠ "java/lang/invoke/MethodHandle" ∧ yX4_learn.cls ≠ "java/lang/invoke/VarHandle" ∧ (parseMethodDescriptor yX4_learn.desc).map (fun d => d.parameters.length) = some 0 := by decide +kernel
abbrev rmX4_learn : Room := { frames := 2, cells := 0, slots := 0, locals := 45 }
def fX4_learn_L41 (o : Nat) (z : CS) (l1 : Int32) : Option ((Int32 × CS) ⊕ CS) :=
  if (10 : Int32) < l1 then
    some (.inr z)
  else
    (fX4_joinTo o z l1).bind fun q6 =>
    some (.inl ((l1 + (1 : Int32)), q6))
def fX4_learn (o : Nat) (z : CS) : Option (CS) :=
  (fJ7_fill_53178 o z (99 : Int32)).bind fun q1 =>
  (fX4_lower o q1 (0 : Int32) (0 : Int32)).bind fun q2 =>
  (fX4_lower o q2 (170 : Int32) (1 : Int32)).bind fun q3 =>
  (fX4_lower o q3 (204 : Int32) (1 : Int32)).bind fun q4 =>
  (fX4_lower o q4 (240 : Int32) (1 : Int32)).bind fun q5 =>
  (lpN (fun u => fX4_learn_L41 o u.2 u.1) bigN ((2 : Int32), q5)).bind fun e7 =>
  some e7
set_option maxHeartbeats 4000000 in
set_option maxRecDepth 100000 in
theorem tX4_learn_L41 {κ : KK} {p : Program} {l : Launch} {e : Env} {s : State} {m : MethodId} {args : Array Value} {below : List Frame} {meth : Method} {c : Code} (C : Cx κ p s m args meth c cX4_learn 2 RX4 none) {o : Nat} {v : Option Value} {B' : Heap → Prop} {z : CS} {l1 : Int32} {y : (Int32 × CS) ⊕ CS} (h : fX4_learn_L41 o z l1 = some y) (kc : ∀ u, y = .inl u → GC κ p l e s m args below meth c rmX4_learn 2 o v B' 0 0 u.2 41 [(0, .ref (o + 26)), (1, .int u.1)] []) (kx : ∀ w, y = .inr w → GC κ p l e s m args below meth c rmX4_learn 2 o v B' 0 0 w 58 [] []) : GC κ p l e s m args below meth c rmX4_learn 2 o v B' 0 0 z 41 [(0, .ref (o + 26)), (1, .int l1)] [] := by
  unfold fX4_learn_L41 at h
  refine G_iload_n (pc' := 42) C dX4_learn_41 1 rfl rfl ?_
  refine G_bipush (pc' := 44) (v := (10 : Int32)) C dX4_learn_42 (by decide) rfl ?_
  refine G_icmp_gt (tgt := 58) (pc' := 47) C dX4_learn_44 (by decide) rfl (fun hc => ?_) (fun hc => ?_)
  · replace h := z_ip hc h
    exact G_sub (lv' := []) [] rfl (kx _ (Option.some.inj h).symm)
  · replace h := z_in hc h
    refine G_aload_n (pc' := 48) C dX4_learn_47 0 rfl rfl ?_
    refine G_iload_n (pc' := 49) C dX4_learn_48 1 rfl rfl ?_
    replace h := ob h
    obtain ⟨q6, hq6, h⟩ := h
    refine G_cV0 (pc' := 52) C dX4_learn_49 (tX4_joinTo κ l o z l1 q6 hq6) (wV tw_ml_X4_36 tw_im_X4_joinTo tw_se_X4_X4_joinTo tw_in_X4 tw_co_X4_joinTo) yd_X4_joinTo rfl fi_X4 (CB_rd 26 rfl) rfl rfl (by decide) rfl (Nat.le_of_ble_eq_true rfl) rfl rfl ?_
    refine G_iinc (pc' := 55) C dX4_learn_52 1 rfl rfl [(1, .int (l1 + (1 : Int32))), (0, .ref (o + 26))] (by decide) rfl rfl ?_
    refine G_goto (tgt := 41) C dX4_learn_55 (by decide) ?_
    exact G_sub (lv' := [(0, .ref (o + 26)), (1, .int (l1 + (1 : Int32)))]) [1, 0] rfl (kc ((l1 + (1 : Int32)), q6) (Option.some.inj h).symm)
set_option maxHeartbeats 4000000 in
set_option maxRecDepth 100000 in
theorem tX4_learn (κ : KK) (l : Launch) (o : Nat) (z : CS) (q : CS) (h : fX4_learn o z = some q) : MM κ l yX4_learn cX4_learn 2 none rmX4_learn (CA o) [.ref (o + 26)] (CB κ o z) none (CB κ o q) := by
  refine MM.of (by decide +kernel) (Nat.le_of_ble_eq_true rfl) ?_
  intro p e s m below meth c C hnm
  unfold fX4_learn at h
  refine G_sub (lv' := [(0, .ref (o + 26))]) [0] rfl ?_
  refine G_aload_n (pc' := 1) C dX4_learn_0 0 rfl rfl ?_
  refine G_get (pc' := 4) (k := 0) C fi_X4 dX4_learn_1 tw_fl_X4_9 rfl (by decide) (CB_rd 26 rfl) rfl rfl ?_
  refine G_bipush (pc' := 6) (v := (99 : Int32)) C dX4_learn_4 (by decide) rfl ?_
  replace h := ob h
  obtain ⟨q1, hq1, h⟩ := h
  refine G_cS0 (pc' := 9) C dX4_learn_6 (tJ7_fill_53178 κ l o z (99 : Int32) q1 hq1) (wS tw_ml_X4_26 tw_st_J7_fill_53178 tw_co_J7_fill_53178 tw_in_J7) yd_J7_fill_53178 rfl rfl rfl (by decide) rfl (Nat.le_of_ble_eq_true rfl) rfl rfl ?_
  refine G_aload_n (pc' := 10) C dX4_learn_9 0 rfl rfl ?_
  refine G_iconst (pc' := 11) (v := (0 : Int32)) C dX4_learn_10 (by decide) rfl ?_
  refine G_iconst (pc' := 12) (v := (0 : Int32)) C dX4_learn_11 (by decide) rfl ?_
  replace h := ob h
  obtain ⟨q2, hq2, h⟩ := h
  refine G_cV0 (pc' := 15) C dX4_learn_12 (tX4_lower κ l o q1 (0 : Int32) (0 : Int32) q2 hq2) (wV tw_ml_X4_32 tw_im_X4_lower tw_se_X4_X4_lower tw_in_X4 tw_co_X4_lower) yd_X4_lower rfl fi_X4 (CB_rd 26 rfl) rfl rfl (by decide) rfl (Nat.le_of_ble_eq_true rfl) rfl rfl ?_
  refine G_aload_n (pc' := 16) C dX4_learn_15 0 rfl rfl ?_
  refine G_sipush (pc' := 19) (v := (170 : Int32)) C dX4_learn_16 (by decide) rfl ?_
  refine G_iconst (pc' := 20) (v := (1 : Int32)) C dX4_learn_19 (by decide) rfl ?_
  replace h := ob h
  obtain ⟨q3, hq3, h⟩ := h
  refine G_cV0 (pc' := 23) C dX4_learn_20 (tX4_lower κ l o q2 (170 : Int32) (1 : Int32) q3 hq3) (wV tw_ml_X4_32 tw_im_X4_lower tw_se_X4_X4_lower tw_in_X4 tw_co_X4_lower) yd_X4_lower rfl fi_X4 (CB_rd 26 rfl) rfl rfl (by decide) rfl (Nat.le_of_ble_eq_true rfl) rfl rfl ?_
  refine G_aload_n (pc' := 24) C dX4_learn_23 0 rfl rfl ?_
  refine G_sipush (pc' := 27) (v := (204 : Int32)) C dX4_learn_24 (by decide) rfl ?_
  refine G_iconst (pc' := 28) (v := (1 : Int32)) C dX4_learn_27 (by decide) rfl ?_
  replace h := ob h
  obtain ⟨q4, hq4, h⟩ := h
  refine G_cV0 (pc' := 31) C dX4_learn_28 (tX4_lower κ l o q3 (204 : Int32) (1 : Int32) q4 hq4) (wV tw_ml_X4_32 tw_im_X4_lower tw_se_X4_X4_lower tw_in_X4 tw_co_X4_lower) yd_X4_lower rfl fi_X4 (CB_rd 26 rfl) rfl rfl (by decide) rfl (Nat.le_of_ble_eq_true rfl) rfl rfl ?_
  refine G_aload_n (pc' := 32) C dX4_learn_31 0 rfl rfl ?_
  refine G_sipush (pc' := 35) (v := (240 : Int32)) C dX4_learn_32 (by decide) rfl ?_
  refine G_iconst (pc' := 36) (v := (1 : Int32)) C dX4_learn_35 (by decide) rfl ?_
  replace h := ob h
  obtain ⟨q5, hq5, h⟩ := h
  refine G_cV0 (pc' := 39) C dX4_learn_36 (tX4_lower κ l o q4 (240 : Int32) (1 : Int32) q5 hq5) (wV tw_ml_X4_32 tw_im_X4_lower tw_se_X4_X4_lower tw_in_X4 tw_co_X4_lower) yd_X4_lower rfl fi_X4 (CB_rd 26 rfl) rfl rfl (by decide) rfl (Nat.le_of_ble_eq_true rfl) rfl rfl ?_
  refine G_iconst (pc' := 40) (v := (2 : Int32)) C dX4_learn_39 (by decide) rfl ?_
  refine G_istore_n (pc' := 41) C dX4_learn_40 [(1, .int (2 : Int32)), (0, .ref (o + 26))] (by decide) rfl rfl ?_
  replace h := ob h
  obtain ⟨e7, hle7, h⟩ := h
  refine G_sub (lv' := [(0, .ref (o + 26)), (1, .int (2 : Int32))]) [1, 0] rfl ?_
  refine lpN_ind (body := fun u => fX4_learn_L41 o u.2 u.1) (P := fun u => GC κ p l e s m ([.ref (o + 26)] : List Value).toArray below meth c rmX4_learn 2 o none (CB κ o q) 0 0 u.2 41 [(0, .ref (o + 26)), (1, .int u.1)] []) (X := fun w => GC κ p l e s m ([.ref (o + 26)] : List Value).toArray below meth c rmX4_learn 2 o none (CB κ o q) 0 0 w 58 [] []) (fun u y hb kc kx => tX4_learn_L41 C hb kc kx) _ _ _ hle7 ?_
  refine G_widen (k := rmX4_learn.cells) (n := rmX4_learn.slots) (by decide) (by decide) ?_
  obtain rfl := Option.some.inj h
  exact G_vret C dX4_learn_58 (fun _ h => h)
theorem dX4_fewestFor_0 : decode cX4_fewestFor 0 = .ok (.aload_n 0, 1) := by decide +kernel
theorem dX4_fewestFor_1 : decode cX4_fewestFor 1 = .ok (.getfield 13, 3) := by decide +kernel
theorem dX4_fewestFor_4 : decode cX4_fewestFor 4 = .ok (.ifCond .ne 12, 3) := by decide +kernel
theorem dX4_fewestFor_7 : decode cX4_fewestFor 7 = .ok (.aload_n 0, 1) := by decide +kernel
theorem dX4_fewestFor_8 : decode cX4_fewestFor 8 = .ok (.invokevirtual 17, 3) := by decide +kernel
theorem dX4_fewestFor_11 : decode cX4_fewestFor 11 = .ok (.aload_n 0, 1) := by decide +kernel
theorem dX4_fewestFor_12 : decode cX4_fewestFor 12 = .ok (.iconst 1, 1) := by decide +kernel
theorem dX4_fewestFor_13 : decode cX4_fewestFor 13 = .ok (.putfield 13, 3) := by decide +kernel
theorem dX4_fewestFor_16 : decode cX4_fewestFor 16 = .ok (.iconst 0, 1) := by decide +kernel
theorem dX4_fewestFor_17 : decode cX4_fewestFor 17 = .ok (.istore_n 2, 1) := by decide +kernel
theorem dX4_fewestFor_18 : decode cX4_fewestFor 18 = .ok (.iconst 0, 1) := by decide +kernel
theorem dX4_fewestFor_19 : decode cX4_fewestFor 19 = .ok (.istore_n 3, 1) := by decide +kernel
theorem dX4_fewestFor_20 : decode cX4_fewestFor 20 = .ok (.iload_n 3, 1) := by decide +kernel
theorem dX4_fewestFor_21 : decode cX4_fewestFor 21 = .ok (.bipush 8, 2) := by decide +kernel
theorem dX4_fewestFor_23 : decode cX4_fewestFor 23 = .ok (.if_icmp .ge 28, 3) := by decide +kernel
theorem dX4_fewestFor_26 : decode cX4_fewestFor 26 = .ok (.iload_n 2, 1) := by decide +kernel
theorem dX4_fewestFor_27 : decode cX4_fewestFor 27 = .ok (.aload_n 1, 1) := by decide +kernel
theorem dX4_fewestFor_28 : decode cX4_fewestFor 28 = .ok (.getfield 20, 3) := by decide +kernel
theorem dX4_fewestFor_31 : decode cX4_fewestFor 31 = .ok (.iload_n 3, 1) := by decide +kernel
theorem dX4_fewestFor_32 : decode cX4_fewestFor 32 = .ok (.aload_n 1, 1) := by decide +kernel
theorem dX4_fewestFor_33 : decode cX4_fewestFor 33 = .ok (.getfield 20, 3) := by decide +kernel
theorem dX4_fewestFor_36 : decode cX4_fewestFor 36 = .ok (.arraylength, 1) := by decide +kernel
theorem dX4_fewestFor_37 : decode cX4_fewestFor 37 = .ok (.iconst 1, 1) := by decide +kernel
theorem dX4_fewestFor_38 : decode cX4_fewestFor 38 = .ok (.isub, 1) := by decide +kernel
theorem dX4_fewestFor_39 : decode cX4_fewestFor 39 = .ok (.iand, 1) := by decide +kernel
theorem dX4_fewestFor_40 : decode cX4_fewestFor 40 = .ok (.baload, 1) := by decide +kernel
theorem dX4_fewestFor_41 : decode cX4_fewestFor 41 = .ok (.iload_n 3, 1) := by decide +kernel
theorem dX4_fewestFor_42 : decode cX4_fewestFor 42 = .ok (.ishl, 1) := by decide +kernel
theorem dX4_fewestFor_43 : decode cX4_fewestFor 43 = .ok (.ior, 1) := by decide +kernel
theorem dX4_fewestFor_44 : decode cX4_fewestFor 44 = .ok (.istore_n 2, 1) := by decide +kernel
theorem dX4_fewestFor_45 : decode cX4_fewestFor 45 = .ok (.iinc 3 1, 3) := by decide +kernel
theorem dX4_fewestFor_48 : decode cX4_fewestFor 48 = .ok (.goto (-28), 3) := by decide +kernel
theorem dX4_fewestFor_51 : decode cX4_fewestFor 51 = .ok (.aload_n 0, 1) := by decide +kernel
theorem dX4_fewestFor_52 : decode cX4_fewestFor 52 = .ok (.getfield 9, 3) := by decide +kernel
theorem dX4_fewestFor_55 : decode cX4_fewestFor 55 = .ok (.iload_n 2, 1) := by decide +kernel
theorem dX4_fewestFor_56 : decode cX4_fewestFor 56 = .ok (.iaload, 1) := by decide +kernel
theorem dX4_fewestFor_57 : decode cX4_fewestFor 57 = .ok (.ireturn, 1) := by decide +kernel
theorem yd_X4_fewestFor : yX4_fewestFor.cls = RX4 ∧ yX4_fewestFor.cls ≠ "java/lang/invoke/MethodHandle" ∧ yX4_fewestFor.cls ≠ "java/lang/invoke/VarHandle" ∧ (parseMethodDescriptor yX4_fewestFor.desc).map (fun d => d.parameters.length) = some 1 := by decide +kernel
abbrev rmX4_fewestFor : Room := { frames := 3, cells := 0, slots := 0, locals := 66 }
def fX4_fewestFor_L20 (o : Nat) (z : CS) (l1 : Nat) (l2 : Int32) (l3 : Int32) : Option ((Int32 × Int32) ⊕ Int32) :=
  if (8 : Int32) ≤ l3 then
    some (.inr l2)
  else
    (dT z l1).bind fun t1 =>
    (dT z l1).bind fun t2 =>
    (t2.2.2.2).bind fun ad3 =>
    (lnB z ad3).bind fun v4 =>
    (t1.2.2.2).bind fun ad5 =>
    (rdB z ad5 (l3 &&& (v4 - (1 : Int32)))).bind fun v6 =>
    some (.inl ((l2 ||| (v6 <<< (l3 &&& 31))), (l3 + (1 : Int32))))
def fX4_fewestFor_J16 (o : Nat) (z : CS) (l1 : Nat) : Option (Int32 × CS) :=
  (lpN (fun u => fX4_fewestFor_L20 o z l1 u.1 u.2) bigN ((0 : Int32), (0 : Int32))).bind fun e7 =>
  (aI 256 (z.2.1 16) e7).bind fun v8 =>
  some (v8, z)
def fX4_fewestFor (o : Nat) (z : CS) (a1 : Nat) : Option (Int32 × CS) :=
  if (z.1 11) = 0 then
    (fX4_learn o z ).bind fun q9 =>
    fX4_fewestFor_J16 o (cI q9 11 (1 : Int32)) a1
  else
    fX4_fewestFor_J16 o z a1
set_option maxHeartbeats 4000000 in
set_option maxRecDepth 100000 in
theorem tX4_fewestFor_L20 {κ : KK} {p : Program} {l : Launch} {e : Env} {s : State} {m : MethodId} {args : Array Value} {below : List Frame} {meth : Method} {c : Code} (C : Cx κ p s m args meth c cX4_fewestFor 4 RX4 (some .int)) {o : Nat} {v : Option Value} {B' : Heap → Prop} {z : CS} {l1 : Nat} {l2 : Int32} {l3 : Int32} {y : (Int32 × Int32) ⊕ Int32} (h : fX4_fewestFor_L20 o z l1 l2 l3 = some y) (kc : ∀ u, y = .inl u → GC κ p l e s m args below meth c rmX4_fewestFor 4 o v B' 0 0 z 20 [(0, .ref (o + 26)), (1, .ref l1), (2, .int u.1), (3, .int u.2)] []) (kx : ∀ w, y = .inr w → GC κ p l e s m args below meth c rmX4_fewestFor 4 o v B' 0 0 z 51 [(0, .ref (o + 26)), (2, .int w)] []) : GC κ p l e s m args below meth c rmX4_fewestFor 4 o v B' 0 0 z 20 [(0, .ref (o + 26)), (1, .ref l1), (2, .int l2), (3, .int l3)] [] := by
  unfold fX4_fewestFor_L20 at h
  refine G_iload_n (pc' := 21) C dX4_fewestFor_20 3 rfl rfl ?_
  refine G_bipush (pc' := 23) (v := (8 : Int32)) C dX4_fewestFor_21 (by decide) rfl ?_
  refine G_icmp_ge (tgt := 51) (pc' := 26) C dX4_fewestFor_23 (by decide) rfl (fun hc => ?_) (fun hc => ?_)
  · replace h := z_ip hc h
    exact G_sub (lv' := [(0, .ref (o + 26)), (2, .int l2)]) [0, 2] rfl (kx _ (Option.some.inj h).symm)
  · replace h := z_in hc h
    refine G_iload_n (pc' := 27) C dX4_fewestFor_26 2 rfl rfl ?_
    refine G_aload_n (pc' := 28) C dX4_fewestFor_27 1 rfl rfl ?_
    replace h := ob h
    obtain ⟨t1, ht1, h⟩ := h
    refine G_get (pc' := 31) (k := 3) C fi_X8 dX4_fewestFor_28 tw_fl_X4_20 rfl (by decide) (CB_T ht1) rfl rfl ?_
    refine G_iload_n (pc' := 32) C dX4_fewestFor_31 3 rfl rfl ?_
    refine G_aload_n (pc' := 33) C dX4_fewestFor_32 1 rfl rfl ?_
    replace h := ob h
    obtain ⟨t2, ht2, h⟩ := h
    refine G_get (pc' := 36) (k := 3) C fi_X8 dX4_fewestFor_33 tw_fl_X4_20 rfl (by decide) (CB_T ht2) rfl rfl ?_
    replace h := ob h
    obtain ⟨ad3, had3, h⟩ := h
    rw [had3]
    replace h := ob h
    obtain ⟨v4, hv4, h⟩ := h
    refine P_lenB (pc' := 37) C dX4_fewestFor_36 hv4 rfl ?_
    refine G_iconst (pc' := 38) (v := (1 : Int32)) C dX4_fewestFor_37 (by decide) rfl ?_
    refine G_isub (pc' := 39) C dX4_fewestFor_38 rfl ?_
    refine G_iand (pc' := 40) C dX4_fewestFor_39 rfl ?_
    replace h := ob h
    obtain ⟨ad5, had5, h⟩ := h
    rw [had5]
    replace h := ob h
    obtain ⟨v6, hv6, h⟩ := h
    refine P_bald (pc' := 41) C dX4_fewestFor_40 hv6 rfl ?_
    refine G_iload_n (pc' := 42) C dX4_fewestFor_41 3 rfl rfl ?_
    refine G_ishl (pc' := 43) C dX4_fewestFor_42 rfl ?_
    refine G_ior (pc' := 44) C dX4_fewestFor_43 rfl ?_
    refine G_istore_n (pc' := 45) C dX4_fewestFor_44 [(2, .int (l2 ||| (v6 <<< (l3 &&& 31)))), (0, .ref (o + 26)), (1, .ref l1), (3, .int l3)] (by decide) rfl rfl ?_
    refine G_iinc (pc' := 48) C dX4_fewestFor_45 3 rfl rfl [(3, .int (l3 + (1 : Int32))), (2, .int (l2 ||| (v6 <<< (l3 &&& 31)))), (0, .ref (o + 26)), (1, .ref l1)] (by decide) rfl rfl ?_
    refine G_goto (tgt := 20) C dX4_fewestFor_48 (by decide) ?_
    exact G_sub (lv' := [(0, .ref (o + 26)), (1, .ref l1), (2, .int (l2 ||| (v6 <<< (l3 &&& 31)))), (3, .int (l3 + (1 : Int32)))]) [2, 3, 1, 0] rfl (kc ((l2 ||| (v6 <<< (l3 &&& 31))), (l3 + (1 : Int32))) (Option.some.inj h).symm)
set_option maxHeartbeats 4000000 in
set_option maxRecDepth 100000 in
theorem tX4_fewestFor (κ : KK) (l : Launch) (o : Nat) (z : CS) (a1 : Nat) (q : Int32 × CS) (h : fX4_fewestFor o z a1 = some q) : MM κ l yX4_fewestFor cX4_fewestFor 4 (some .int) rmX4_fewestFor (CA o) [.ref (o + 26), .ref a1] (CB κ o z) (some (Value.int q.1)) (CB κ o q.2) := by
  refine MM.of (by decide +kernel) (Nat.le_of_ble_eq_true rfl) ?_
  intro p e s m below meth c C hnm
  have J16 : ∀ (z : CS) (l1 : Nat), fX4_fewestFor_J16 o z l1 = some q → GC κ p l e s m ([.ref (o + 26), .ref a1] : List Value).toArray below meth c rmX4_fewestFor 4 o (some (Value.int q.1)) (CB κ o q.2) 0 0 z 16 [(0, .ref (o + 26)), (1, .ref l1)] [] := by
    intro z l1 h
    unfold fX4_fewestFor_J16 at h
    refine G_iconst (pc' := 17) (v := (0 : Int32)) C dX4_fewestFor_16 (by decide) rfl ?_
    refine G_istore_n (pc' := 18) C dX4_fewestFor_17 [(2, .int (0 : Int32)), (0, .ref (o + 26)), (1, .ref l1)] (by decide) rfl rfl ?_
    refine G_iconst (pc' := 19) (v := (0 : Int32)) C dX4_fewestFor_18 (by decide) rfl ?_
    refine G_istore_n (pc' := 20) C dX4_fewestFor_19 [(3, .int (0 : Int32)), (2, .int (0 : Int32)), (0, .ref (o + 26)), (1, .ref l1)] (by decide) rfl rfl ?_
    replace h := ob h
    obtain ⟨e7, hle7, h⟩ := h
    refine G_sub (lv' := [(0, .ref (o + 26)), (1, .ref l1), (2, .int (0 : Int32)), (3, .int (0 : Int32))]) [2, 3, 1, 0] rfl ?_
    refine lpN_ind (body := fun u => fX4_fewestFor_L20 o z l1 u.1 u.2) (P := fun u => GC κ p l e s m ([.ref (o + 26), .ref a1] : List Value).toArray below meth c rmX4_fewestFor 4 o (some (Value.int q.1)) (CB κ o q.2) 0 0 z 20 [(0, .ref (o + 26)), (1, .ref l1), (2, .int u.1), (3, .int u.2)] []) (X := fun w => GC κ p l e s m ([.ref (o + 26), .ref a1] : List Value).toArray below meth c rmX4_fewestFor 4 o (some (Value.int q.1)) (CB κ o q.2) 0 0 z 51 [(0, .ref (o + 26)), (2, .int w)] []) (fun u y hb kc kx => tX4_fewestFor_L20 C hb kc kx) _ _ _ hle7 ?_
    refine G_aload_n (pc' := 52) C dX4_fewestFor_51 0 rfl rfl ?_
    refine G_get (pc' := 55) (k := 0) C fi_X4 dX4_fewestFor_52 tw_fl_X4_9 rfl (by decide) (CB_rd 26 rfl) rfl rfl ?_
    refine G_iload_n (pc' := 56) C dX4_fewestFor_55 1 rfl rfl ?_
    replace h := ob h
    obtain ⟨v8, hv8, h⟩ := h
    refine G_ialdV (pc' := 57) C dX4_fewestFor_56 (CB_rd 27 rfl) hv8 rfl ?_
    refine G_widen (k := rmX4_fewestFor.cells) (n := rmX4_fewestFor.slots) (by decide) (by decide) ?_
    obtain rfl := Option.some.inj h
    exact G_iret C dX4_fewestFor_57 (fun _ h => h)
  unfold fX4_fewestFor at h
  refine G_sub (lv' := [(0, .ref (o + 26)), (1, .ref a1)]) [0, 1] rfl ?_
  refine G_aload_n (pc' := 1) C dX4_fewestFor_0 0 rfl rfl ?_
  refine G_get (pc' := 4) (k := 1) C fi_X4 dX4_fewestFor_1 tw_fl_X4_13 rfl (by decide) (CB_rd 26 rfl) rfl rfl ?_
  refine G_if_ne (tgt := 16) (pc' := 7) C dX4_fewestFor_4 (by decide) rfl (fun hc => ?_) (fun hc => ?_)
  · replace h := z_in hc h
    exact G_sub (lv' := [(0, .ref (o + 26)), (1, .ref a1)]) [0, 1] rfl (J16 z a1 h)
  · replace h := z_ip hc h
    refine G_aload_n (pc' := 8) C dX4_fewestFor_7 0 rfl rfl ?_
    replace h := ob h
    obtain ⟨q9, hq9, h⟩ := h
    refine G_cV0 (pc' := 11) C dX4_fewestFor_8 (tX4_learn κ l o z  q9 hq9) (wV tw_ml_X4_17 tw_im_X4_learn tw_se_X4_X4_learn tw_in_X4 tw_co_X4_learn) yd_X4_learn rfl fi_X4 (CB_rd 26 rfl) rfl rfl (by decide) rfl (Nat.le_of_ble_eq_true rfl) rfl rfl ?_
    refine G_aload_n (pc' := 12) C dX4_fewestFor_11 0 rfl rfl ?_
    refine G_iconst (pc' := 13) (v := (1 : Int32)) C dX4_fewestFor_12 (by decide) rfl ?_
    refine G_put (pc' := 16) (k := 1) C fi_X4 dX4_fewestFor_13 tw_fl_X4_13 rfl (by decide) rfl rfl rfl (Nat.le_of_ble_eq_true rfl) (CB_rd 26 rfl) (CB_wr (cI q9 11 (1 : Int32)) 26 (by decide) rfl rfl) rfl ?_
    exact G_sub (lv' := [(0, .ref (o + 26)), (1, .ref a1)]) [0, 1] rfl (J16 (cI q9 11 (1 : Int32)) a1 h)
theorem dX9_letters_0 : decode cX9_letters 0 = .ok (.aload_n 0, 1) := by decide +kernel
theorem dX9_letters_1 : decode cX9_letters 1 = .ok (.iload_n 1, 1) := by decide +kernel
theorem dX9_letters_2 : decode cX9_letters 2 = .ok (.invokevirtual 261, 3) := by decide +kernel
theorem dX9_letters_5 : decode cX9_letters 5 = .ok (.istore_n 2, 1) := by decide +kernel
theorem dX9_letters_6 : decode cX9_letters 6 = .ok (.iload_n 2, 1) := by decide +kernel
theorem dX9_letters_7 : decode cX9_letters 7 = .ok (.ifCond .eq 5, 3) := by decide +kernel
theorem dX9_letters_10 : decode cX9_letters 10 = .ok (.iload_n 2, 1) := by decide +kernel
theorem dX9_letters_11 : decode cX9_letters 11 = .ok (.ireturn, 1) := by decide +kernel
theorem dX9_letters_12 : decode cX9_letters 12 = .ok (.aload_n 0, 1) := by decide +kernel
theorem dX9_letters_13 : decode cX9_letters 13 = .ok (.getfield 17, 3) := by decide +kernel
theorem dX9_letters_16 : decode cX9_letters 16 = .ok (.iload_n 1, 1) := by decide +kernel
theorem dX9_letters_17 : decode cX9_letters 17 = .ok (.aaload, 1) := by decide +kernel
theorem dX9_letters_18 : decode cX9_letters 18 = .ok (.getfield 152, 3) := by decide +kernel
theorem dX9_letters_21 : decode cX9_letters 21 = .ok (.iconst 3, 1) := by decide +kernel
theorem dX9_letters_22 : decode cX9_letters 22 = .ok (.if_icmp .le 8, 3) := by decide +kernel
theorem dX9_letters_25 : decode cX9_letters 25 = .ok (.bipush (-5), 2) := by decide +kernel
theorem dX9_letters_27 : decode cX9_letters 27 = .ok (.goto 16, 3) := by decide +kernel
theorem dX9_letters_30 : decode cX9_letters 30 = .ok (.aload_n 0, 1) := by decide +kernel
theorem dX9_letters_31 : decode cX9_letters 31 = .ok (.getfield 71, 3) := by decide +kernel
theorem dX9_letters_34 : decode cX9_letters 34 = .ok (.aload_n 0, 1) := by decide +kernel
theorem dX9_letters_35 : decode cX9_letters 35 = .ok (.getfield 17, 3) := by decide +kernel
theorem dX9_letters_38 : decode cX9_letters 38 = .ok (.iload_n 1, 1) := by decide +kernel
theorem dX9_letters_39 : decode cX9_letters 39 = .ok (.aaload, 1) := by decide +kernel
theorem dX9_letters_40 : decode cX9_letters 40 = .ok (.invokevirtual 297, 3) := by decide +kernel
theorem dX9_letters_43 : decode cX9_letters 43 = .ok (.ireturn, 1) := by decide +kernel
theorem yd_X9_letters : yX9_letters.cls = RX9 ∧ yX9_letters.cls ≠ "java/lang/invoke/MethodHandle" ∧ yX9_letters.cls ≠ "java/lang/invoke/VarHandle" ∧ (parseMethodDescriptor yX9_letters.desc).map (fun d => d.parameters.length) = some 1 := by decide +kernel
abbrev rmX9_letters : Room := { frames := 4, cells := 0, slots := 0, locals := 89 }
def fX9_letters (o : Nat) (z : CS) (a1 : Int32) : Option (Int32 × CS) :=
  (fX9_findingOfTold o z a1).bind fun q1 =>
  if q1.1 = 0 then
    (aQ 8 (q1.2.2.2.1 1) a1).bind fun v2 =>
    (v2).bind fun ad3 =>
    (dT q1.2 ad3).bind fun t4 =>
    if t4.2.1 ≤ (3 : Int32) then
      (aQ 8 (q1.2.2.2.1 1) a1).bind fun v5 =>
      (v5).bind fun ad6 =>
      (fX4_fewestFor o q1.2 ad6).bind fun q7 =>
      some (q7.1, q7.2)
    else
      some ((-5 : Int32), q1.2)
  else
    some (q1.1, q1.2)
set_option maxHeartbeats 4000000 in
set_option maxRecDepth 100000 in
theorem tX9_letters (κ : KK) (l : Launch) (o : Nat) (z : CS) (a1 : Int32) (q : Int32 × CS) (h : fX9_letters o z a1 = some q) : MM κ l yX9_letters cX9_letters 3 (some .int) rmX9_letters (CA o) [.ref o, .int a1] (CB κ o z) (some (Value.int q.1)) (CB κ o q.2) := by
  refine MM.of (by decide +kernel) (Nat.le_of_ble_eq_true rfl) ?_
  intro p e s m below meth c C hnm
  unfold fX9_letters at h
  refine G_sub (lv' := [(0, .ref o), (1, .int a1)]) [0, 1] rfl ?_
  refine G_aload_n (pc' := 1) C dX9_letters_0 0 rfl rfl ?_
  refine G_iload_n (pc' := 2) C dX9_letters_1 1 rfl rfl ?_
  replace h := ob h
  obtain ⟨q1, hq1, h⟩ := h
  refine G_cV0 (pc' := 5) C dX9_letters_2 (tX9_findingOfTold κ l o z a1 q1 hq1) (wV tw_ml_X9_261 tw_im_X9_findingOfTold tw_se_X9_X9_findingOfTold tw_in_X9 tw_co_X9_findingOfTold) yd_X9_findingOfTold rfl fi_X9 (CB_rd 0 rfl) rfl rfl (by decide) rfl (Nat.le_of_ble_eq_true rfl) rfl rfl ?_
  refine G_istore_n (pc' := 6) C dX9_letters_5 [(2, .int q1.1), (0, .ref o), (1, .int a1)] (by decide) rfl rfl ?_
  refine G_iload_n (pc' := 7) C dX9_letters_6 0 rfl rfl ?_
  refine G_if_eq (tgt := 12) (pc' := 10) C dX9_letters_7 (by decide) rfl (fun hc => ?_) (fun hc => ?_)
  · replace h := z_ip hc h
    refine G_aload_n (pc' := 13) C dX9_letters_12 1 rfl rfl ?_
    refine G_get (pc' := 16) (k := 1) C fi_X9 dX9_letters_13 tw_fl_X9_17 rfl (by decide) (CB_rd 0 rfl) rfl rfl ?_
    refine G_iload_n (pc' := 17) C dX9_letters_16 2 rfl rfl ?_
    replace h := ob h
    obtain ⟨v2, hv2, h⟩ := h
    refine G_aald5V (pc' := 18) C dX9_letters_17 (CB_rd 2 rfl) hv2 rfl ?_
    replace h := ob h
    obtain ⟨ad3, had3, h⟩ := h
    subst had3
    replace h := ob h
    obtain ⟨t4, ht4, h⟩ := h
    refine G_get (pc' := 21) (k := 1) C fi_X8 dX9_letters_18 tw_fl_X9_152 rfl (by decide) (CB_T ht4) rfl rfl ?_
    refine G_iconst (pc' := 22) (v := (3 : Int32)) C dX9_letters_21 (by decide) rfl ?_
    refine G_icmp_le (tgt := 30) (pc' := 25) C dX9_letters_22 (by decide) rfl (fun hc => ?_) (fun hc => ?_)
    · replace h := z_ip hc h
      refine G_aload_n (pc' := 31) C dX9_letters_30 1 rfl rfl ?_
      refine G_get (pc' := 34) (k := 10) C fi_X9 dX9_letters_31 tw_fl_X9_71 rfl (by decide) (CB_rd 0 rfl) rfl rfl ?_
      refine G_aload_n (pc' := 35) C dX9_letters_34 1 rfl rfl ?_
      refine G_get (pc' := 38) (k := 1) C fi_X9 dX9_letters_35 tw_fl_X9_17 rfl (by decide) (CB_rd 0 rfl) rfl rfl ?_
      refine G_iload_n (pc' := 39) C dX9_letters_38 2 rfl rfl ?_
      replace h := ob h
      obtain ⟨v5, hv5, h⟩ := h
      refine G_aald5V (pc' := 40) C dX9_letters_39 (CB_rd 2 rfl) hv5 rfl ?_
      replace h := ob h
      obtain ⟨ad6, had6, h⟩ := h
      subst had6
      replace h := ob h
      obtain ⟨q7, hq7, h⟩ := h
      refine G_cV0 (pc' := 43) C dX9_letters_40 (tX4_fewestFor κ l o q1.2 ad6 q7 hq7) (wV tw_ml_X9_297 tw_im_X4_fewestFor tw_se_X4_X4_fewestFor tw_in_X4 tw_co_X4_fewestFor) yd_X4_fewestFor rfl fi_X4 (CB_rd 26 rfl) rfl rfl (by decide) rfl (Nat.le_of_ble_eq_true rfl) rfl rfl ?_
      refine G_widen (k := rmX9_letters.cells) (n := rmX9_letters.slots) (by decide) (by decide) ?_
      obtain rfl := Option.some.inj h
      exact G_iret C dX9_letters_43 (fun _ h => h)
    · replace h := z_in hc h
      refine G_bipush (pc' := 27) (v := (-5 : Int32)) C dX9_letters_25 (by decide) rfl ?_
      refine G_goto (tgt := 43) C dX9_letters_27 (by decide) ?_
      refine G_widen (k := rmX9_letters.cells) (n := rmX9_letters.slots) (by decide) (by decide) ?_
      obtain rfl := Option.some.inj h
      exact G_iret C dX9_letters_43 (fun _ h => h)
  · replace h := z_in hc h
    refine G_iload_n (pc' := 11) C dX9_letters_10 0 rfl rfl ?_
    refine G_widen (k := rmX9_letters.cells) (n := rmX9_letters.slots) (by decide) (by decide) ?_
    obtain rfl := Option.some.inj h
    exact G_iret C dX9_letters_11 (fun _ h => h)
abbrev rmX1_weightOfHalves_29 : Room := { frames := 1, cells := 0, slots := 0, locals := 24 }
def fX1_weightOfHalves_29 (o : Nat) (z : CS) (a1 : Int32) (a2 : Int32) : Option (Int32) :=
  (aI 6561 (z.2.1 18) (a1 - ((2 : Int32) * a2))).bind fun v1 =>
  (aI 6561 (z.2.1 18) (a1 - a2)).bind fun v2 =>
  if (z.1 15) = 0 then
    some (if v1 < v2 then v2 else v1)
  else
    some (v1 + v2)
set_option maxHeartbeats 4000000 in
set_option maxRecDepth 100000 in
theorem tX1_weightOfHalves_29 (κ : KK) (l : Launch) (o : Nat) (z : CS) (a1 : Int32) (a2 : Int32) (q : Int32) (h : fX1_weightOfHalves_29 o z a1 a2 = some q) : MM κ l yX1_weightOfHalves cX1_weightOfHalves 5 (some .int) rmX1_weightOfHalves_29 (CA o) [.ref (o + 29), .int a1, .int a2] (CB κ o z) (some (Value.int q)) (CB κ o z) := by
  refine MM.of (by decide +kernel) (Nat.le_of_ble_eq_true rfl) ?_
  intro p e s m below meth c C hnm
  unfold fX1_weightOfHalves_29 at h
  refine G_sub (lv' := [(0, .ref (o + 29)), (1, .int a1), (2, .int a2)]) [0, 1, 2] rfl ?_
  refine G_aload_n (pc' := 1) C dX1_weightOfHalves_0 0 rfl rfl ?_
  refine G_get (pc' := 4) (k := 1) C fi_X1 dX1_weightOfHalves_1 tw_fl_X1_15 rfl (by decide) (CB_rd 29 rfl) rfl rfl ?_
  refine G_iload_n (pc' := 5) C dX1_weightOfHalves_4 1 rfl rfl ?_
  refine G_iconst (pc' := 6) (v := (2 : Int32)) C dX1_weightOfHalves_5 (by decide) rfl ?_
  refine G_iload_n (pc' := 7) C dX1_weightOfHalves_6 2 rfl rfl ?_
  refine G_imul (pc' := 8) C dX1_weightOfHalves_7 rfl ?_
  refine G_isub (pc' := 9) C dX1_weightOfHalves_8 rfl ?_
  replace h := ob h
  obtain ⟨v1, hv1, h⟩ := h
  refine G_ialdV (pc' := 10) C dX1_weightOfHalves_9 (CB_rd 31 rfl) hv1 rfl ?_
  refine G_istore_n (pc' := 11) C dX1_weightOfHalves_10 [(3, .int v1), (0, .ref (o + 29)), (1, .int a1), (2, .int a2)] (by decide) rfl rfl ?_
  refine G_aload_n (pc' := 12) C dX1_weightOfHalves_11 1 rfl rfl ?_
  refine G_get (pc' := 15) (k := 1) C fi_X1 dX1_weightOfHalves_12 tw_fl_X1_15 rfl (by decide) (CB_rd 29 rfl) rfl rfl ?_
  refine G_iload_n (pc' := 16) C dX1_weightOfHalves_15 2 rfl rfl ?_
  refine G_iload_n (pc' := 17) C dX1_weightOfHalves_16 3 rfl rfl ?_
  refine G_isub (pc' := 18) C dX1_weightOfHalves_17 rfl ?_
  replace h := ob h
  obtain ⟨v2, hv2, h⟩ := h
  refine G_ialdV (pc' := 19) C dX1_weightOfHalves_18 (CB_rd 31 rfl) hv2 rfl ?_
  refine G_istore (pc' := 21) C dX1_weightOfHalves_19 [(4, .int v2), (3, .int v1), (0, .ref (o + 29)), (1, .int a1), (2, .int a2)] (by decide) rfl rfl ?_
  refine G_aload_n (pc' := 22) C dX1_weightOfHalves_21 2 rfl rfl ?_
  refine G_get (pc' := 25) (k := 3) C fi_X1 dX1_weightOfHalves_22 tw_fl_X1_23 rfl (by decide) (CB_rd 29 rfl) rfl rfl ?_
  refine G_if_eq (tgt := 35) (pc' := 28) C dX1_weightOfHalves_25 (by decide) rfl (fun hc => ?_) (fun hc => ?_)
  · replace h := z_ip hc h
    refine G_iload_n (pc' := 36) C dX1_weightOfHalves_35 1 rfl rfl ?_
    refine G_iload (pc' := 38) C dX1_weightOfHalves_36 0 rfl rfl ?_
    refine G_mmax (pc' := 41) C dX1_weightOfHalves_38 tw_ml_X1_64 (by decide) rfl ?_
    obtain rfl := Option.some.inj h
    exact G_iret C dX1_weightOfHalves_41 (fun _ h => h)
  · replace h := z_in hc h
    refine G_iload_n (pc' := 29) C dX1_weightOfHalves_28 1 rfl rfl ?_
    refine G_iload (pc' := 31) C dX1_weightOfHalves_29 0 rfl rfl ?_
    refine G_iadd (pc' := 32) C dX1_weightOfHalves_31 rfl ?_
    refine G_goto (tgt := 41) C dX1_weightOfHalves_32 (by decide) ?_
    obtain rfl := Option.some.inj h
    exact G_iret C dX1_weightOfHalves_41 (fun _ h => h)
abbrev rmX1_isSettled_29 : Room := { frames := 0, cells := 0, slots := 0, locals := 0 }
def fX1_isSettled_29 (o : Nat) (z : CS) (a1 : Int32) : Option (Int32) :=
  (aI 6561 (z.2.1 17) a1).bind fun v1 =>
  if v1 = (3 : Int32) then
    some (0 : Int32)
  else
    some (1 : Int32)
set_option maxHeartbeats 4000000 in
set_option maxRecDepth 100000 in
theorem tX1_isSettled_29 (κ : KK) (l : Launch) (o : Nat) (z : CS) (a1 : Int32) (q : Int32) (h : fX1_isSettled_29 o z a1 = some q) : MM κ l yX1_isSettled cX1_isSettled 2 (some .boolean) rmX1_isSettled_29 (CA o) [.ref (o + 29), .int a1] (CB κ o z) (some (Value.int q)) (CB κ o z) := by
  refine MM.of (by decide +kernel) (Nat.le_of_ble_eq_true rfl) ?_
  intro p e s m below meth c C hnm
  unfold fX1_isSettled_29 at h
  refine G_sub (lv' := [(0, .ref (o + 29)), (1, .int a1)]) [0, 1] rfl ?_
  refine G_aload_n (pc' := 1) C dX1_isSettled_0 0 rfl rfl ?_
  refine G_get (pc' := 4) (k := 0) C fi_X1 dX1_isSettled_1 tw_fl_X1_9 rfl (by decide) (CB_rd 29 rfl) rfl rfl ?_
  refine G_iload_n (pc' := 5) C dX1_isSettled_4 1 rfl rfl ?_
  replace h := ob h
  obtain ⟨v1, hv1, h⟩ := h
  refine G_baldV (pc' := 6) C dX1_isSettled_5 (CB_rd 30 rfl) hv1 rfl ?_
  refine G_iconst (pc' := 7) (v := (3 : Int32)) C dX1_isSettled_6 (by decide) rfl ?_
  refine G_icmp_eq (tgt := 14) (pc' := 10) C dX1_isSettled_7 (by decide) rfl (fun hc => ?_) (fun hc => ?_)
  · replace h := z_ip hc h
    refine G_iconst (pc' := 15) (v := (0 : Int32)) C dX1_isSettled_14 (by decide) rfl ?_
    obtain rfl := Option.some.inj h
    exact G_zret (v := (0 : Int32)) C rfl dX1_isSettled_15 (fun _ h => h)
  · replace h := z_in hc h
    refine G_iconst (pc' := 11) (v := (1 : Int32)) C dX1_isSettled_10 (by decide) rfl ?_
    refine G_goto (tgt := 15) C dX1_isSettled_11 (by decide) ?_
    obtain rfl := Option.some.inj h
    exact G_zret (v := (1 : Int32)) C rfl dX1_isSettled_15 (fun _ h => h)
abbrev rmX1_ownWeight_29 : Room := { frames := 0, cells := 0, slots := 0, locals := 0 }
def fX1_ownWeight_29 (o : Nat) (z : CS) (a1 : Int32) : Option (Int32) :=
  if (z.1 15) = 0 then
    some (1 : Int32)
  else
    some ((1 : Int32) <<< (a1 &&& 31))
set_option maxHeartbeats 4000000 in
set_option maxRecDepth 100000 in
theorem tX1_ownWeight_29 (κ : KK) (l : Launch) (o : Nat) (z : CS) (a1 : Int32) (q : Int32) (h : fX1_ownWeight_29 o z a1 = some q) : MM κ l yX1_ownWeight cX1_ownWeight 2 (some .int) rmX1_ownWeight_29 (CA o) [.ref (o + 29), .int a1] (CB κ o z) (some (Value.int q)) (CB κ o z) := by
  refine MM.of (by decide +kernel) (Nat.le_of_ble_eq_true rfl) ?_
  intro p e s m below meth c C hnm
  unfold fX1_ownWeight_29 at h
  refine G_sub (lv' := [(0, .ref (o + 29)), (1, .int a1)]) [0, 1] rfl ?_
  refine G_aload_n (pc' := 1) C dX1_ownWeight_0 0 rfl rfl ?_
  refine G_get (pc' := 4) (k := 3) C fi_X1 dX1_ownWeight_1 tw_fl_X1_23 rfl (by decide) (CB_rd 29 rfl) rfl rfl ?_
  refine G_if_eq (tgt := 13) (pc' := 7) C dX1_ownWeight_4 (by decide) rfl (fun hc => ?_) (fun hc => ?_)
  · replace h := z_ip hc h
    refine G_iconst (pc' := 14) (v := (1 : Int32)) C dX1_ownWeight_13 (by decide) rfl ?_
    obtain rfl := Option.some.inj h
    exact G_iret C dX1_ownWeight_14 (fun _ h => h)
  · replace h := z_in hc h
    refine G_iconst (pc' := 8) (v := (1 : Int32)) C dX1_ownWeight_7 (by decide) rfl ?_
    refine G_iload_n (pc' := 9) C dX1_ownWeight_8 1 rfl rfl ?_
    refine G_ishl (pc' := 10) C dX1_ownWeight_9 rfl ?_
    refine G_goto (tgt := 14) C dX1_ownWeight_10 (by decide) ?_
    obtain rfl := Option.some.inj h
    exact G_iret C dX1_ownWeight_14 (fun _ h => h)
abbrev rmX1_weighOne_29 : Room := { frames := 2, cells := 0, slots := 0, locals := 48 }
def fX1_weighOne_29_L17_J95 (o : Nat) (z : CS) (l1 : Int32) (l2 : Int32) (l3 : Int32) (l4 : Int32) (l5 : Int32) (l6 : Int32) (l7 : Int32) : Option ((Int32 × Int32 × Int32 × Int32 × Int32 × Int32 × CS) ⊕ (Int32 × Int32 × Int32 × CS)) :=
  some (.inl ((l2 / (3 : Int32)), (l3 * (3 : Int32)), l4, l5, l6, (l7 + (1 : Int32)), z))
def fX1_weighOne_29_L17 (o : Nat) (z : CS) (l1 : Int32) (l2 : Int32) (l3 : Int32) (l4 : Int32) (l5 : Int32) (l6 : Int32) (l7 : Int32) : Option ((Int32 × Int32 × Int32 × Int32 × Int32 × Int32 × CS) ⊕ (Int32 × Int32 × Int32 × CS)) :=
  ((z.2.2.2.1 1)).bind fun ad1 =>
  (dT z ad1).bind fun t2 =>
  if t2.2.1 ≤ l7 then
    some (.inr (l4, l5, l6, z))
  else
    if (l2 - l2 / (3 : Int32) * (3 : Int32)) = (2 : Int32) then
      (aI 6561 (z.2.1 17) (l1 - l3)).bind fun v3 =>
      (aI 6561 (z.2.1 17) (l1 - ((2 : Int32) * l3))).bind fun v4 =>
      (csA z 17 6561 l1 (Int8.toInt32 (Int32.toInt8 (Int8.toInt32 (Int32.toInt8 (v3 ||| v4)))))).bind fun z5 =>
      (fX1_weightOfHalves_29 o z5 l1 l3).bind fun q6 =>
      fX1_weighOne_29_L17_J95 o z5 l1 l2 l3 (l4 + (1 : Int32)) l5 (if q6 < l6 then q6 else l6) l7
    else
      fX1_weighOne_29_L17_J95 o z l1 l2 l3 l4 (l5 ||| ((l2 - l2 / (3 : Int32) * (3 : Int32)) <<< (l7 &&& 31))) l6 l7
def fX1_weighOne_29_J179 (o : Nat) (z : CS) (s0 : Int32) (s1 : Int32) : Option (CS) :=
  (csA z 18 6561 s1 s0).bind fun z10 =>
  some z10
def fX1_weighOne_29_J153 (o : Nat) (z : CS) (l1 : Int32) (l4 : Int32) (l6 : Int32) : Option (CS) :=
  (fX1_isSettled_29 o z l1).bind fun q8 =>
  if q8 = 0 then
    (fX1_ownWeight_29 o z l4).bind fun q9 =>
    fX1_weighOne_29_J179 o z (l6 + q9) l1
  else
    fX1_weighOne_29_J179 o z (0 : Int32) l1
def fX1_weighOne_29_J151 (o : Nat) (z : CS) (l1 : Int32) (l4 : Int32) (l6 : Int32) (s0 : Int32) (s1 : Int32) : Option (CS) :=
  (csA z 17 6561 s1 (Int8.toInt32 (Int32.toInt8 (Int8.toInt32 (Int32.toInt8 s0))))).bind fun z15 =>
  fX1_weighOne_29_J153 o z15 l1 l4 l6
def fX1_weighOne_29 (o : Nat) (z : CS) (a1 : Int32) : Option (CS) :=
  (lpN (fun u => fX1_weighOne_29_L17 o u.2.2.2.2.2.2 a1 u.1 u.2.1 u.2.2.1 u.2.2.2.1 u.2.2.2.2.1 u.2.2.2.2.2.1) bigN (a1, (1 : Int32), (0 : Int32), (0 : Int32), (1000000 : Int32), (0 : Int32), z)).bind fun e7 =>
  if e7.1 = 0 then
    ((e7.2.2.2.2.2.2.1 1)).bind fun ad11 =>
    (dT e7.2.2.2 ad11).bind fun t12 =>
    (t12.2.2.2).bind fun ad13 =>
    (rdB e7.2.2.2 ad13 e7.2.1).bind fun v14 =>
    if v14 = 0 then
      fX1_weighOne_29_J151 o e7.2.2.2 a1 e7.1 e7.2.2.1 (1 : Int32) a1
    else
      if v14 = (1 : Int32) then
        fX1_weighOne_29_J151 o e7.2.2.2 a1 e7.1 e7.2.2.1 (2 : Int32) a1
      else
        fX1_weighOne_29_J151 o e7.2.2.2 a1 e7.1 e7.2.2.1 (0 : Int32) a1
  else
    fX1_weighOne_29_J153 o e7.2.2.2 a1 e7.1 e7.2.2.1
set_option maxHeartbeats 4000000 in
set_option maxRecDepth 100000 in
theorem tX1_weighOne_29_L17 {κ : KK} {p : Program} {l : Launch} {e : Env} {s : State} {m : MethodId} {args : Array Value} {below : List Frame} {meth : Method} {c : Code} (C : Cx κ p s m args meth c cX1_weighOne 9 RX1 none) {o : Nat} {v : Option Value} {B' : Heap → Prop} {z : CS} {l1 : Int32} {l2 : Int32} {l3 : Int32} {l4 : Int32} {l5 : Int32} {l6 : Int32} {l7 : Int32} {y : (Int32 × Int32 × Int32 × Int32 × Int32 × Int32 × CS) ⊕ (Int32 × Int32 × Int32 × CS)} (h : fX1_weighOne_29_L17 o z l1 l2 l3 l4 l5 l6 l7 = some y) (kc : ∀ u, y = .inl u → GC κ p l e s m args below meth c rmX1_weighOne_29 9 o v B' 0 0 u.2.2.2.2.2.2 17 [(0, .ref (o + 29)), (1, .int l1), (2, .int u.1), (3, .int u.2.1), (4, .int u.2.2.1), (5, .int u.2.2.2.1), (6, .int u.2.2.2.2.1), (7, .int u.2.2.2.2.2.1)] []) (kx : ∀ w, y = .inr w → GC κ p l e s m args below meth c rmX1_weighOne_29 9 o v B' 0 0 w.2.2.2 109 [(0, .ref (o + 29)), (1, .int l1), (4, .int w.1), (5, .int w.2.1), (6, .int w.2.2.1)] []) : GC κ p l e s m args below meth c rmX1_weighOne_29 9 o v B' 0 0 z 17 [(0, .ref (o + 29)), (1, .int l1), (2, .int l2), (3, .int l3), (4, .int l4), (5, .int l5), (6, .int l6), (7, .int l7)] [] := by
  have J95 : ∀ (z : CS) (l2 : Int32) (l3 : Int32) (l4 : Int32) (l5 : Int32) (l6 : Int32) (l7 : Int32), fX1_weighOne_29_L17_J95 o z l1 l2 l3 l4 l5 l6 l7 = some y → GC κ p l e s m args below meth c rmX1_weighOne_29 9 o v B' 0 0 z 95 [(0, .ref (o + 29)), (1, .int l1), (2, .int l2), (3, .int l3), (4, .int l4), (5, .int l5), (6, .int l6), (7, .int l7)] [] := by
    intro z l2 l3 l4 l5 l6 l7 h
    unfold fX1_weighOne_29_L17_J95 at h
    refine G_iload_n (pc' := 96) C dX1_weighOne_95 2 rfl rfl ?_
    refine G_iconst (pc' := 97) (v := (3 : Int32)) C dX1_weighOne_96 (by decide) rfl ?_
    refine G_idiv (pc' := 98) C dX1_weighOne_97 (by decide) rfl ?_
    refine G_istore_n (pc' := 99) C dX1_weighOne_98 [(2, .int (l2 / (3 : Int32))), (0, .ref (o + 29)), (1, .int l1), (3, .int l3), (4, .int l4), (5, .int l5), (6, .int l6), (7, .int l7)] (by decide) rfl rfl ?_
    refine G_iload_n (pc' := 100) C dX1_weighOne_99 3 rfl rfl ?_
    refine G_iconst (pc' := 101) (v := (3 : Int32)) C dX1_weighOne_100 (by decide) rfl ?_
    refine G_imul (pc' := 102) C dX1_weighOne_101 rfl ?_
    refine G_istore_n (pc' := 103) C dX1_weighOne_102 [(3, .int (l3 * (3 : Int32))), (2, .int (l2 / (3 : Int32))), (0, .ref (o + 29)), (1, .int l1), (4, .int l4), (5, .int l5), (6, .int l6), (7, .int l7)] (by decide) rfl rfl ?_
    refine G_iinc (pc' := 106) C dX1_weighOne_103 7 rfl rfl [(7, .int (l7 + (1 : Int32))), (3, .int (l3 * (3 : Int32))), (2, .int (l2 / (3 : Int32))), (0, .ref (o + 29)), (1, .int l1), (4, .int l4), (5, .int l5), (6, .int l6)] (by decide) rfl rfl ?_
    refine G_goto (tgt := 17) C dX1_weighOne_106 (by decide) ?_
    exact G_sub (lv' := [(0, .ref (o + 29)), (1, .int l1), (2, .int (l2 / (3 : Int32))), (3, .int (l3 * (3 : Int32))), (4, .int l4), (5, .int l5), (6, .int l6), (7, .int (l7 + (1 : Int32)))]) [3, 4, 2, 1, 5, 6, 7, 0] rfl (kc ((l2 / (3 : Int32)), (l3 * (3 : Int32)), l4, l5, l6, (l7 + (1 : Int32)), z) (Option.some.inj h).symm)
  unfold fX1_weighOne_29_L17 at h
  refine G_iload (pc' := 19) C dX1_weighOne_17 7 rfl rfl ?_
  refine G_aload_n (pc' := 20) C dX1_weighOne_19 0 rfl rfl ?_
  refine G_get (pc' := 23) (k := 2) C fi_X1 dX1_weighOne_20 tw_fl_X1_19 rfl (by decide) (CB_rd 29 rfl) rfl rfl ?_
  replace h := ob h
  obtain ⟨ad1, had1, h⟩ := h
  rw [had1]
  replace h := ob h
  obtain ⟨t2, ht2, h⟩ := h
  refine G_get (pc' := 26) (k := 1) C fi_X8 dX1_weighOne_23 tw_fl_X1_27 rfl (by decide) (CB_T ht2) rfl rfl ?_
  refine G_icmp_ge (tgt := 109) (pc' := 29) C dX1_weighOne_26 (by decide) rfl (fun hc => ?_) (fun hc => ?_)
  · replace h := z_ip hc h
    exact G_sub (lv' := [(0, .ref (o + 29)), (1, .int l1), (4, .int l4), (5, .int l5), (6, .int l6)]) [0, 1, 4, 5, 6] rfl (kx _ (Option.some.inj h).symm)
  · replace h := z_in hc h
    refine G_iload_n (pc' := 30) C dX1_weighOne_29 2 rfl rfl ?_
    refine G_iconst (pc' := 31) (v := (3 : Int32)) C dX1_weighOne_30 (by decide) rfl ?_
    refine G_irem (pc' := 32) C dX1_weighOne_31 (by decide) rfl ?_
    refine G_istore (pc' := 34) C dX1_weighOne_32 [(8, .int (l2 - l2 / (3 : Int32) * (3 : Int32))), (0, .ref (o + 29)), (1, .int l1), (2, .int l2), (3, .int l3), (4, .int l4), (5, .int l5), (6, .int l6), (7, .int l7)] (by decide) rfl rfl ?_
    refine G_iload (pc' := 36) C dX1_weighOne_34 0 rfl rfl ?_
    refine G_iconst (pc' := 37) (v := (2 : Int32)) C dX1_weighOne_36 (by decide) rfl ?_
    refine G_icmp_ne (tgt := 85) (pc' := 40) C dX1_weighOne_37 (by decide) rfl (fun hc => ?_) (fun hc => ?_)
    · replace h := z_in hc h
      refine G_iload (pc' := 87) C dX1_weighOne_85 6 rfl rfl ?_
      refine G_iload (pc' := 89) C dX1_weighOne_87 0 rfl rfl ?_
      refine G_iload (pc' := 91) C dX1_weighOne_89 8 rfl rfl ?_
      refine G_ishl (pc' := 92) C dX1_weighOne_91 rfl ?_
      refine G_ior (pc' := 93) C dX1_weighOne_92 rfl ?_
      refine G_istore (pc' := 95) C dX1_weighOne_93 [(5, .int (l5 ||| ((l2 - l2 / (3 : Int32) * (3 : Int32)) <<< (l7 &&& 31)))), (8, .int (l2 - l2 / (3 : Int32) * (3 : Int32))), (0, .ref (o + 29)), (1, .int l1), (2, .int l2), (3, .int l3), (4, .int l4), (6, .int l6), (7, .int l7)] (by decide) rfl rfl ?_
      exact G_sub (lv' := [(0, .ref (o + 29)), (1, .int l1), (2, .int l2), (3, .int l3), (4, .int l4), (5, .int (l5 ||| ((l2 - l2 / (3 : Int32) * (3 : Int32)) <<< (l7 &&& 31)))), (6, .int l6), (7, .int l7)]) [2, 3, 4, 5, 6, 0, 7, 8] rfl (J95 z l2 l3 l4 (l5 ||| ((l2 - l2 / (3 : Int32) * (3 : Int32)) <<< (l7 &&& 31))) l6 l7 h)
    · replace h := z_ip hc h
      refine G_iinc (pc' := 43) C dX1_weighOne_40 5 rfl rfl [(4, .int (l4 + (1 : Int32))), (8, .int (l2 - l2 / (3 : Int32) * (3 : Int32))), (0, .ref (o + 29)), (1, .int l1), (2, .int l2), (3, .int l3), (5, .int l5), (6, .int l6), (7, .int l7)] (by decide) rfl rfl ?_
      refine G_aload_n (pc' := 44) C dX1_weighOne_43 2 rfl rfl ?_
      refine G_get (pc' := 47) (k := 0) C fi_X1 dX1_weighOne_44 tw_fl_X1_9 rfl (by decide) (CB_rd 29 rfl) rfl rfl ?_
      refine G_iload_n (pc' := 48) C dX1_weighOne_47 3 rfl rfl ?_
      refine G_aload_n (pc' := 49) C dX1_weighOne_48 2 rfl rfl ?_
      refine G_get (pc' := 52) (k := 0) C fi_X1 dX1_weighOne_49 tw_fl_X1_9 rfl (by decide) (CB_rd 29 rfl) rfl rfl ?_
      refine G_iload_n (pc' := 53) C dX1_weighOne_52 3 rfl rfl ?_
      refine G_iload_n (pc' := 54) C dX1_weighOne_53 5 rfl rfl ?_
      refine G_isub (pc' := 55) C dX1_weighOne_54 rfl ?_
      replace h := ob h
      obtain ⟨v3, hv3, h⟩ := h
      refine G_baldV (pc' := 56) C dX1_weighOne_55 (CB_rd 30 rfl) hv3 rfl ?_
      refine G_aload_n (pc' := 57) C dX1_weighOne_56 2 rfl rfl ?_
      refine G_get (pc' := 60) (k := 0) C fi_X1 dX1_weighOne_57 tw_fl_X1_9 rfl (by decide) (CB_rd 29 rfl) rfl rfl ?_
      refine G_iload_n (pc' := 61) C dX1_weighOne_60 3 rfl rfl ?_
      refine G_iconst (pc' := 62) (v := (2 : Int32)) C dX1_weighOne_61 (by decide) rfl ?_
      refine G_iload_n (pc' := 63) C dX1_weighOne_62 5 rfl rfl ?_
      refine G_imul (pc' := 64) C dX1_weighOne_63 rfl ?_
      refine G_isub (pc' := 65) C dX1_weighOne_64 rfl ?_
      replace h := ob h
      obtain ⟨v4, hv4, h⟩ := h
      refine G_baldV (pc' := 66) C dX1_weighOne_65 (CB_rd 30 rfl) hv4 rfl ?_
      refine G_ior (pc' := 67) C dX1_weighOne_66 rfl ?_
      refine G_i2b (pc' := 68) C dX1_weighOne_67 rfl ?_
      replace h := ob h
      obtain ⟨z5, hz5, h⟩ := h
      refine C_s_30 (pc' := 69) C dX1_weighOne_68 hz5 rfl ?_
      refine G_iload (pc' := 71) C dX1_weighOne_69 7 rfl rfl ?_
      refine G_aload_n (pc' := 72) C dX1_weighOne_71 2 rfl rfl ?_
      refine G_iload_n (pc' := 73) C dX1_weighOne_72 3 rfl rfl ?_
      refine G_iload_n (pc' := 74) C dX1_weighOne_73 5 rfl rfl ?_
      replace h := ob h
      obtain ⟨q6, hq6, h⟩ := h
      refine G_cV0 (pc' := 77) C dX1_weighOne_74 (tX1_weightOfHalves_29 κ l o z5 l1 l3 q6 hq6) (wV tw_ml_X1_45 tw_im_X1_weightOfHalves tw_se_X1_X1_weightOfHalves tw_in_X1 tw_co_X1_weightOfHalves) yd_X1_weightOfHalves rfl fi_X1 (CB_rd 29 rfl) rfl rfl (by decide) rfl (Nat.le_of_ble_eq_true rfl) rfl rfl ?_
      refine G_mmin (pc' := 80) C dX1_weighOne_77 tw_ml_X1_49 (by decide) rfl ?_
      refine G_istore (pc' := 82) C dX1_weighOne_80 [(6, .int (if q6 < l6 then q6 else l6)), (4, .int (l4 + (1 : Int32))), (8, .int (l2 - l2 / (3 : Int32) * (3 : Int32))), (0, .ref (o + 29)), (1, .int l1), (2, .int l2), (3, .int l3), (5, .int l5), (7, .int l7)] (by decide) rfl rfl ?_
      refine G_goto (tgt := 95) C dX1_weighOne_82 (by decide) ?_
      exact G_sub (lv' := [(0, .ref (o + 29)), (1, .int l1), (2, .int l2), (3, .int l3), (4, .int (l4 + (1 : Int32))), (5, .int l5), (6, .int (if q6 < l6 then q6 else l6)), (7, .int l7)]) [3, 4, 5, 6, 1, 7, 0, 8] rfl (J95 z5 l2 l3 (l4 + (1 : Int32)) l5 (if q6 < l6 then q6 else l6) l7 h)
set_option maxHeartbeats 4000000 in
set_option maxRecDepth 100000 in
theorem tX1_weighOne_29 (κ : KK) (l : Launch) (o : Nat) (z : CS) (a1 : Int32) (q : CS) (h : fX1_weighOne_29 o z a1 = some q) : MM κ l yX1_weighOne cX1_weighOne 9 none rmX1_weighOne_29 (CA o) [.ref (o + 29), .int a1] (CB κ o z) none (CB κ o q) := by
  refine MM.of (by decide +kernel) (Nat.le_of_ble_eq_true rfl) ?_
  intro p e s m below meth c C hnm
  have J179 : ∀ (z : CS) (s0 : Int32) (s1 : Int32), fX1_weighOne_29_J179 o z s0 s1 = some q → GC κ p l e s m ([.ref (o + 29), .int a1] : List Value).toArray below meth c rmX1_weighOne_29 9 o none (CB κ o q) 0 0 z 179 [] [.int s0, .int s1, .ref (o + 31)] := by
    intro z s0 s1 h
    unfold fX1_weighOne_29_J179 at h
    replace h := ob h
    obtain ⟨z10, hz10, h⟩ := h
    refine C_s_31 (pc' := 180) C dX1_weighOne_179 hz10 rfl ?_
    refine G_widen (k := rmX1_weighOne_29.cells) (n := rmX1_weighOne_29.slots) (by decide) (by decide) ?_
    obtain rfl := Option.some.inj h
    exact G_vret C dX1_weighOne_180 (fun _ h => h)
  have J153 : ∀ (z : CS) (l1 : Int32) (l4 : Int32) (l6 : Int32), fX1_weighOne_29_J153 o z l1 l4 l6 = some q → GC κ p l e s m ([.ref (o + 29), .int a1] : List Value).toArray below meth c rmX1_weighOne_29 9 o none (CB κ o q) 0 0 z 153 [(0, .ref (o + 29)), (1, .int l1), (4, .int l4), (6, .int l6)] [] := by
    intro z l1 l4 l6 h
    unfold fX1_weighOne_29_J153 at h
    refine G_aload_n (pc' := 154) C dX1_weighOne_153 0 rfl rfl ?_
    refine G_get (pc' := 157) (k := 1) C fi_X1 dX1_weighOne_154 tw_fl_X1_15 rfl (by decide) (CB_rd 29 rfl) rfl rfl ?_
    refine G_iload_n (pc' := 158) C dX1_weighOne_157 1 rfl rfl ?_
    refine G_aload_n (pc' := 159) C dX1_weighOne_158 0 rfl rfl ?_
    refine G_iload_n (pc' := 160) C dX1_weighOne_159 1 rfl rfl ?_
    replace h := ob h
    obtain ⟨q8, hq8, h⟩ := h
    refine G_cV0 (pc' := 163) C dX1_weighOne_160 (tX1_isSettled_29 κ l o z l1 q8 hq8) (wV tw_ml_X1_57 tw_im_X1_isSettled tw_se_X1_X1_isSettled tw_in_X1 tw_co_X1_isSettled) yd_X1_isSettled rfl fi_X1 (CB_rd 29 rfl) rfl rfl (by decide) rfl (Nat.le_of_ble_eq_true rfl) rfl rfl ?_
    refine G_if_eq (tgt := 170) (pc' := 166) C dX1_weighOne_163 (by decide) rfl (fun hc => ?_) (fun hc => ?_)
    · replace h := z_ip hc h
      refine G_iload (pc' := 172) C dX1_weighOne_170 3 rfl rfl ?_
      refine G_aload_n (pc' := 173) C dX1_weighOne_172 0 rfl rfl ?_
      refine G_iload (pc' := 175) C dX1_weighOne_173 2 rfl rfl ?_
      replace h := ob h
      obtain ⟨q9, hq9, h⟩ := h
      refine G_cV0 (pc' := 178) C dX1_weighOne_175 (tX1_ownWeight_29 κ l o z l4 q9 hq9) (wV tw_ml_X1_61 tw_im_X1_ownWeight tw_se_X1_X1_ownWeight tw_in_X1 tw_co_X1_ownWeight) yd_X1_ownWeight rfl fi_X1 (CB_rd 29 rfl) rfl rfl (by decide) rfl (Nat.le_of_ble_eq_true rfl) rfl rfl ?_
      refine G_iadd (pc' := 179) C dX1_weighOne_178 rfl ?_
      exact G_sub (lv' := []) [] rfl (J179 z (l6 + q9) l1 h)
    · replace h := z_in hc h
      refine G_iconst (pc' := 167) (v := (0 : Int32)) C dX1_weighOne_166 (by decide) rfl ?_
      refine G_goto (tgt := 179) C dX1_weighOne_167 (by decide) ?_
      exact G_sub (lv' := []) [] rfl (J179 z (0 : Int32) l1 h)
  have J151 : ∀ (z : CS) (l1 : Int32) (l4 : Int32) (l6 : Int32) (s0 : Int32) (s1 : Int32), fX1_weighOne_29_J151 o z l1 l4 l6 s0 s1 = some q → GC κ p l e s m ([.ref (o + 29), .int a1] : List Value).toArray below meth c rmX1_weighOne_29 9 o none (CB κ o q) 0 0 z 151 [(0, .ref (o + 29)), (1, .int l1), (4, .int l4), (6, .int l6)] [.int s0, .int s1, .ref (o + 30)] := by
    intro z l1 l4 l6 s0 s1 h
    unfold fX1_weighOne_29_J151 at h
    refine G_i2b (pc' := 152) C dX1_weighOne_151 rfl ?_
    replace h := ob h
    obtain ⟨z15, hz15, h⟩ := h
    refine C_s_30 (pc' := 153) C dX1_weighOne_152 hz15 rfl ?_
    exact G_sub (lv' := [(0, .ref (o + 29)), (1, .int l1), (4, .int l4), (6, .int l6)]) [0, 1, 2, 3] rfl (J153 z15 l1 l4 l6 h)
  unfold fX1_weighOne_29 at h
  refine G_sub (lv' := [(0, .ref (o + 29)), (1, .int a1)]) [0, 1] rfl ?_
  refine G_iload_n (pc' := 1) C dX1_weighOne_0 1 rfl rfl ?_
  refine G_istore_n (pc' := 2) C dX1_weighOne_1 [(2, .int a1), (0, .ref (o + 29)), (1, .int a1)] (by decide) rfl rfl ?_
  refine G_iconst (pc' := 3) (v := (1 : Int32)) C dX1_weighOne_2 (by decide) rfl ?_
  refine G_istore_n (pc' := 4) C dX1_weighOne_3 [(3, .int (1 : Int32)), (2, .int a1), (0, .ref (o + 29)), (1, .int a1)] (by decide) rfl rfl ?_
  refine G_iconst (pc' := 5) (v := (0 : Int32)) C dX1_weighOne_4 (by decide) rfl ?_
  refine G_istore (pc' := 7) C dX1_weighOne_5 [(4, .int (0 : Int32)), (3, .int (1 : Int32)), (2, .int a1), (0, .ref (o + 29)), (1, .int a1)] (by decide) rfl rfl ?_
  refine G_iconst (pc' := 8) (v := (0 : Int32)) C dX1_weighOne_7 (by decide) rfl ?_
  refine G_istore (pc' := 10) C dX1_weighOne_8 [(5, .int (0 : Int32)), (4, .int (0 : Int32)), (3, .int (1 : Int32)), (2, .int a1), (0, .ref (o + 29)), (1, .int a1)] (by decide) rfl rfl ?_
  refine G_ldc (pc' := 12) C dX1_weighOne_10 tw_k_X1_44 rfl ?_
  refine G_istore (pc' := 14) C dX1_weighOne_12 [(6, .int (1000000 : Int32)), (5, .int (0 : Int32)), (4, .int (0 : Int32)), (3, .int (1 : Int32)), (2, .int a1), (0, .ref (o + 29)), (1, .int a1)] (by decide) rfl rfl ?_
  refine G_iconst (pc' := 15) (v := (0 : Int32)) C dX1_weighOne_14 (by decide) rfl ?_
  refine G_istore (pc' := 17) C dX1_weighOne_15 [(7, .int (0 : Int32)), (6, .int (1000000 : Int32)), (5, .int (0 : Int32)), (4, .int (0 : Int32)), (3, .int (1 : Int32)), (2, .int a1), (0, .ref (o + 29)), (1, .int a1)] (by decide) rfl rfl ?_
  replace h := ob h
  obtain ⟨e7, hle7, h⟩ := h
  refine G_sub (lv' := [(0, .ref (o + 29)), (1, .int a1), (2, .int a1), (3, .int (1 : Int32)), (4, .int (0 : Int32)), (5, .int (0 : Int32)), (6, .int (1000000 : Int32)), (7, .int (0 : Int32))]) [6, 7, 5, 4, 3, 2, 1, 0] rfl ?_
  refine lpN_ind (body := fun u => fX1_weighOne_29_L17 o u.2.2.2.2.2.2 a1 u.1 u.2.1 u.2.2.1 u.2.2.2.1 u.2.2.2.2.1 u.2.2.2.2.2.1) (P := fun u => GC κ p l e s m ([.ref (o + 29), .int a1] : List Value).toArray below meth c rmX1_weighOne_29 9 o none (CB κ o q) 0 0 u.2.2.2.2.2.2 17 [(0, .ref (o + 29)), (1, .int a1), (2, .int u.1), (3, .int u.2.1), (4, .int u.2.2.1), (5, .int u.2.2.2.1), (6, .int u.2.2.2.2.1), (7, .int u.2.2.2.2.2.1)] []) (X := fun w => GC κ p l e s m ([.ref (o + 29), .int a1] : List Value).toArray below meth c rmX1_weighOne_29 9 o none (CB κ o q) 0 0 w.2.2.2 109 [(0, .ref (o + 29)), (1, .int a1), (4, .int w.1), (5, .int w.2.1), (6, .int w.2.2.1)] []) (fun u y hb kc kx => tX1_weighOne_29_L17 C hb kc kx) _ _ _ hle7 ?_
  refine G_iload (pc' := 111) C dX1_weighOne_109 2 rfl rfl ?_
  refine G_if_ne (tgt := 153) (pc' := 114) C dX1_weighOne_111 (by decide) rfl (fun hc => ?_) (fun hc => ?_)
  · replace h := z_in hc h
    exact G_sub (lv' := [(0, .ref (o + 29)), (1, .int a1), (4, .int e7.1), (6, .int e7.2.2.1)]) [0, 1, 2, 4] rfl (J153 e7.2.2.2 a1 e7.1 e7.2.2.1 h)
  · replace h := z_ip hc h
    refine G_aload_n (pc' := 115) C dX1_weighOne_114 0 rfl rfl ?_
    refine G_get (pc' := 118) (k := 2) C fi_X1 dX1_weighOne_115 tw_fl_X1_19 rfl (by decide) (CB_rd 29 rfl) rfl rfl ?_
    replace h := ob h
    obtain ⟨ad11, had11, h⟩ := h
    rw [had11]
    replace h := ob h
    obtain ⟨t12, ht12, h⟩ := h
    refine G_get (pc' := 121) (k := 3) C fi_X8 dX1_weighOne_118 tw_fl_X1_54 rfl (by decide) (CB_T ht12) rfl rfl ?_
    refine G_iload (pc' := 123) C dX1_weighOne_121 3 rfl rfl ?_
    replace h := ob h
    obtain ⟨ad13, had13, h⟩ := h
    rw [had13]
    replace h := ob h
    obtain ⟨v14, hv14, h⟩ := h
    refine P_bald (pc' := 124) C dX1_weighOne_123 hv14 rfl ?_
    refine G_istore (pc' := 126) C dX1_weighOne_124 [(7, .int v14), (0, .ref (o + 29)), (1, .int a1), (4, .int e7.1), (5, .int e7.2.1), (6, .int e7.2.2.1)] (by decide) rfl rfl ?_
    refine G_aload_n (pc' := 127) C dX1_weighOne_126 1 rfl rfl ?_
    refine G_get (pc' := 130) (k := 0) C fi_X1 dX1_weighOne_127 tw_fl_X1_9 rfl (by decide) (CB_rd 29 rfl) rfl rfl ?_
    refine G_iload_n (pc' := 131) C dX1_weighOne_130 2 rfl rfl ?_
    refine G_iload (pc' := 133) C dX1_weighOne_131 0 rfl rfl ?_
    refine G_if_ne (tgt := 140) (pc' := 136) C dX1_weighOne_133 (by decide) rfl (fun hc => ?_) (fun hc => ?_)
    · replace h := z_in hc h
      refine G_iload (pc' := 142) C dX1_weighOne_140 0 rfl rfl ?_
      refine G_iconst (pc' := 143) (v := (1 : Int32)) C dX1_weighOne_142 (by decide) rfl ?_
      refine G_icmp_ne (tgt := 150) (pc' := 146) C dX1_weighOne_143 (by decide) rfl (fun hc => ?_) (fun hc => ?_)
      · replace h := z_in hc h
        refine G_iconst (pc' := 151) (v := (0 : Int32)) C dX1_weighOne_150 (by decide) rfl ?_
        exact G_sub (lv' := [(0, .ref (o + 29)), (1, .int a1), (4, .int e7.1), (6, .int e7.2.2.1)]) [1, 2, 3, 5] rfl (J151 e7.2.2.2 a1 e7.1 e7.2.2.1 (0 : Int32) a1 h)
      · replace h := z_ip hc h
        refine G_iconst (pc' := 147) (v := (2 : Int32)) C dX1_weighOne_146 (by decide) rfl ?_
        refine G_goto (tgt := 151) C dX1_weighOne_147 (by decide) ?_
        exact G_sub (lv' := [(0, .ref (o + 29)), (1, .int a1), (4, .int e7.1), (6, .int e7.2.2.1)]) [1, 2, 3, 5] rfl (J151 e7.2.2.2 a1 e7.1 e7.2.2.1 (2 : Int32) a1 h)
    · replace h := z_ip hc h
      refine G_iconst (pc' := 137) (v := (1 : Int32)) C dX1_weighOne_136 (by decide) rfl ?_
      refine G_goto (tgt := 151) C dX1_weighOne_137 (by decide) ?_
      exact G_sub (lv' := [(0, .ref (o + 29)), (1, .int a1), (4, .int e7.1), (6, .int e7.2.2.1)]) [1, 2, 3, 5] rfl (J151 e7.2.2.2 a1 e7.1 e7.2.2.1 (1 : Int32) a1 h)
abbrev rmX1_weigh_29 : Room := { frames := 3, cells := 0, slots := 0, locals := 76 }
def fX1_weigh_29_L42 (o : Nat) (z : CS) (l3 : Int32) : Option ((Int32 × CS) ⊕ CS) :=
  if (z.1 16) < l3 then
    some (.inr z)
  else
    (fX1_weighOne_29 o z l3).bind fun q4 =>
    some (.inl ((l3 + (1 : Int32)), q4))
def fX1_weigh_29_J17 (o : Nat) (z : CS) (l1 : Nat) (l2 : Int32) : Option (CS) :=
  (zI l2).bind fun b1 =>
  (dT (cI (cW z 1 (some l1)) 15 l2) l1).bind fun t2 =>
  (fX1_powerOf t2.2.1).bind fun q3 =>
  (lpN (fun u => fX1_weigh_29_L42 o u.2 u.1) bigN ((0 : Int32), (cI (cI (cW z 1 (some l1)) 15 l2) 16 (q3 - (1 : Int32))))).bind fun e5 =>
  some e5
def fX1_weigh_29 (o : Nat) (z : CS) (a1 : Nat) (a2 : Int32) : Option (CS) :=
  if (z.2.2.2.1 1) = (some a1) then
    if (z.1 15) = a2 then
      some z
    else
      fX1_weigh_29_J17 o z a1 a2
  else
    fX1_weigh_29_J17 o z a1 a2
set_option maxHeartbeats 4000000 in
set_option maxRecDepth 100000 in
theorem tX1_weigh_29_L42 {κ : KK} {p : Program} {l : Launch} {e : Env} {s : State} {m : MethodId} {args : Array Value} {below : List Frame} {meth : Method} {c : Code} (C : Cx κ p s m args meth c cX1_weigh 4 RX1 none) {o : Nat} {v : Option Value} {B' : Heap → Prop} {z : CS} {l3 : Int32} {y : (Int32 × CS) ⊕ CS} (h : fX1_weigh_29_L42 o z l3 = some y) (kc : ∀ u, y = .inl u → GC κ p l e s m args below meth c rmX1_weigh_29 4 o v B' 0 0 u.2 42 [(0, .ref (o + 29)), (3, .int u.1)] []) (kx : ∀ w, y = .inr w → GC κ p l e s m args below meth c rmX1_weigh_29 4 o v B' 0 0 w 61 [] []) : GC κ p l e s m args below meth c rmX1_weigh_29 4 o v B' 0 0 z 42 [(0, .ref (o + 29)), (3, .int l3)] [] := by
  unfold fX1_weigh_29_L42 at h
  refine G_iload_n (pc' := 43) C dX1_weigh_42 1 rfl rfl ?_
  refine G_aload_n (pc' := 44) C dX1_weigh_43 0 rfl rfl ?_
  refine G_get (pc' := 47) (k := 4) C fi_X1 dX1_weigh_44 tw_fl_X1_37 rfl (by decide) (CB_rd 29 rfl) rfl rfl ?_
  refine G_icmp_gt (tgt := 61) (pc' := 50) C dX1_weigh_47 (by decide) rfl (fun hc => ?_) (fun hc => ?_)
  · replace h := z_ip hc h
    exact G_sub (lv' := []) [] rfl (kx _ (Option.some.inj h).symm)
  · replace h := z_in hc h
    refine G_aload_n (pc' := 51) C dX1_weigh_50 0 rfl rfl ?_
    refine G_iload_n (pc' := 52) C dX1_weigh_51 1 rfl rfl ?_
    replace h := ob h
    obtain ⟨q4, hq4, h⟩ := h
    refine G_cV0 (pc' := 55) C dX1_weigh_52 (tX1_weighOne_29 κ l o z l3 q4 hq4) (wV tw_ml_X1_40 tw_im_X1_weighOne tw_se_X1_X1_weighOne tw_in_X1 tw_co_X1_weighOne) yd_X1_weighOne rfl fi_X1 (CB_rd 29 rfl) rfl rfl (by decide) rfl (Nat.le_of_ble_eq_true rfl) rfl rfl ?_
    refine G_iinc (pc' := 58) C dX1_weigh_55 1 rfl rfl [(3, .int (l3 + (1 : Int32))), (0, .ref (o + 29))] (by decide) rfl rfl ?_
    refine G_goto (tgt := 42) C dX1_weigh_58 (by decide) ?_
    exact G_sub (lv' := [(0, .ref (o + 29)), (3, .int (l3 + (1 : Int32)))]) [1, 0] rfl (kc ((l3 + (1 : Int32)), q4) (Option.some.inj h).symm)
set_option maxHeartbeats 4000000 in
set_option maxRecDepth 100000 in
theorem tX1_weigh_29 (κ : KK) (l : Launch) (o : Nat) (z : CS) (a1 : Nat) (a2 : Int32) (q : CS) (h : fX1_weigh_29 o z a1 a2 = some q) : MM κ l yX1_weigh cX1_weigh 4 none rmX1_weigh_29 (CA o) [.ref (o + 29), .ref a1, .int a2] (CB κ o z) none (CB κ o q) := by
  refine MM.of (by decide +kernel) (Nat.le_of_ble_eq_true rfl) ?_
  intro p e s m below meth c C hnm
  have J17 : ∀ (z : CS) (l1 : Nat) (l2 : Int32), fX1_weigh_29_J17 o z l1 l2 = some q → GC κ p l e s m ([.ref (o + 29), .ref a1, .int a2] : List Value).toArray below meth c rmX1_weigh_29 4 o none (CB κ o q) 0 0 z 17 [(0, .ref (o + 29)), (1, .ref l1), (2, .int l2)] [] := by
    intro z l1 l2 h
    unfold fX1_weigh_29_J17 at h
    refine G_aload_n (pc' := 18) C dX1_weigh_17 0 rfl rfl ?_
    refine G_aload_n (pc' := 19) C dX1_weigh_18 1 rfl rfl ?_
    refine G_put (pc' := 22) (k := 2) C fi_X1 dX1_weigh_19 tw_fl_X1_19 rfl (by decide) rfl rfl rfl (Nat.le_of_ble_eq_true rfl) (CB_rd 29 rfl) (CB_wr (cW z 1 (some l1)) 29 (by decide) rfl rfl) rfl ?_
    refine G_aload_n (pc' := 23) C dX1_weigh_22 0 rfl rfl ?_
    refine G_iload_n (pc' := 24) C dX1_weigh_23 2 rfl rfl ?_
    replace h := ob h
    obtain ⟨b1, hb1, h⟩ := h
    obtain ⟨rfl, hz1, hz2⟩ := zI_s hb1
    refine G_put (pc' := 27) (k := 3) C fi_X1 dX1_weigh_24 tw_fl_X1_23 rfl (by decide) rfl hz1 hz2 (Nat.le_of_ble_eq_true rfl) (CB_rd 29 rfl) (CB_wr (cI (cW z 1 (some l1)) 15 l2) 29 (by decide) rfl rfl) rfl ?_
    refine G_aload_n (pc' := 28) C dX1_weigh_27 0 rfl rfl ?_
    refine G_aload_n (pc' := 29) C dX1_weigh_28 1 rfl rfl ?_
    replace h := ob h
    obtain ⟨t2, ht2, h⟩ := h
    refine G_get (pc' := 32) (k := 1) C fi_X8 dX1_weigh_29 tw_fl_X1_27 rfl (by decide) (CB_T ht2) rfl rfl ?_
    replace h := ob h
    obtain ⟨q3, hq3, h⟩ := h
    refine G_cS0 (pc' := 35) C dX1_weigh_32 (tX1_powerOf κ l (CA o) (CB κ o (cI (cW z 1 (some l1)) 15 l2)) t2.2.1 q3 hq3) (wS tw_ml_X1_33 tw_st_X1_powerOf tw_co_X1_powerOf tw_in_X1) yd_X1_powerOf rfl rfl rfl (by decide) rfl (Nat.le_of_ble_eq_true rfl) rfl rfl ?_
    refine G_iconst (pc' := 36) (v := (1 : Int32)) C dX1_weigh_35 (by decide) rfl ?_
    refine G_isub (pc' := 37) C dX1_weigh_36 rfl ?_
    refine G_put (pc' := 40) (k := 4) C fi_X1 dX1_weigh_37 tw_fl_X1_37 rfl (by decide) rfl rfl rfl (Nat.le_of_ble_eq_true rfl) (CB_rd 29 rfl) (CB_wr (cI (cI (cW z 1 (some l1)) 15 l2) 16 (q3 - (1 : Int32))) 29 (by decide) rfl rfl) rfl ?_
    refine G_iconst (pc' := 41) (v := (0 : Int32)) C dX1_weigh_40 (by decide) rfl ?_
    refine G_istore_n (pc' := 42) C dX1_weigh_41 [(3, .int (0 : Int32)), (0, .ref (o + 29)), (1, .ref l1), (2, .int l2)] (by decide) rfl rfl ?_
    replace h := ob h
    obtain ⟨e5, hle5, h⟩ := h
    refine G_sub (lv' := [(0, .ref (o + 29)), (3, .int (0 : Int32))]) [1, 0] rfl ?_
    refine lpN_ind (body := fun u => fX1_weigh_29_L42 o u.2 u.1) (P := fun u => GC κ p l e s m ([.ref (o + 29), .ref a1, .int a2] : List Value).toArray below meth c rmX1_weigh_29 4 o none (CB κ o q) 0 0 u.2 42 [(0, .ref (o + 29)), (3, .int u.1)] []) (X := fun w => GC κ p l e s m ([.ref (o + 29), .ref a1, .int a2] : List Value).toArray below meth c rmX1_weigh_29 4 o none (CB κ o q) 0 0 w 61 [] []) (fun u y hb kc kx => tX1_weigh_29_L42 C hb kc kx) _ _ _ hle5 ?_
    refine G_widen (k := rmX1_weigh_29.cells) (n := rmX1_weigh_29.slots) (by decide) (by decide) ?_
    obtain rfl := Option.some.inj h
    exact G_vret C dX1_weigh_61 (fun _ h => h)
  unfold fX1_weigh_29 at h
  refine G_sub (lv' := [(0, .ref (o + 29)), (1, .ref a1), (2, .int a2)]) [0, 1, 2] rfl ?_
  refine G_aload_n (pc' := 1) C dX1_weigh_0 0 rfl rfl ?_
  refine G_get (pc' := 4) (k := 2) C fi_X1 dX1_weigh_1 tw_fl_X1_19 rfl (by decide) (CB_rd 29 rfl) rfl rfl ?_
  refine G_aload_n (pc' := 5) C dX1_weigh_4 1 rfl rfl ?_
  refine G_acmp_ne (rx := (z.2.2.2.1 1)) (ry := (some a1)) (tgt := 17) (pc' := 8) C dX1_weigh_5 (by decide) rfl (fun hc => ?_) (fun hc => ?_)
  · replace h := z_in hc h
    exact G_sub (lv' := [(0, .ref (o + 29)), (1, .ref a1), (2, .int a2)]) [0, 1, 2] rfl (J17 z a1 a2 h)
  · replace h := z_ip hc h
    refine G_aload_n (pc' := 9) C dX1_weigh_8 0 rfl rfl ?_
    refine G_get (pc' := 12) (k := 3) C fi_X1 dX1_weigh_9 tw_fl_X1_23 rfl (by decide) (CB_rd 29 rfl) rfl rfl ?_
    refine G_iload_n (pc' := 13) C dX1_weigh_12 2 rfl rfl ?_
    refine G_icmp_ne (tgt := 17) (pc' := 16) C dX1_weigh_13 (by decide) rfl (fun hc => ?_) (fun hc => ?_)
    · replace h := z_in hc h
      exact G_sub (lv' := [(0, .ref (o + 29)), (1, .ref a1), (2, .int a2)]) [0, 1, 2] rfl (J17 z a1 a2 h)
    · replace h := z_ip hc h
      refine G_widen (k := rmX1_weigh_29.cells) (n := rmX1_weigh_29.slots) (by decide) (by decide) ?_
      obtain rfl := Option.some.inj h
      exact G_vret C dX1_weigh_16 (fun _ h => h)
abbrev rmX1_weightOfAll_29 : Room := { frames := 0, cells := 0, slots := 0, locals := 0 }
def fX1_weightOfAll_29 (o : Nat) (z : CS) : Option (Int32) :=
  (aI 6561 (z.2.1 18) (z.1 16)).bind fun v1 =>
  some v1
set_option maxHeartbeats 4000000 in
set_option maxRecDepth 100000 in
theorem tX1_weightOfAll_29 (κ : KK) (l : Launch) (o : Nat) (z : CS) (q : Int32) (h : fX1_weightOfAll_29 o z = some q) : MM κ l yX1_weightOfAll cX1_weightOfAll 1 (some .int) rmX1_weightOfAll_29 (CA o) [.ref (o + 29)] (CB κ o z) (some (Value.int q)) (CB κ o z) := by
  refine MM.of (by decide +kernel) (Nat.le_of_ble_eq_true rfl) ?_
  intro p e s m below meth c C hnm
  unfold fX1_weightOfAll_29 at h
  refine G_sub (lv' := [(0, .ref (o + 29))]) [0] rfl ?_
  refine G_aload_n (pc' := 1) C dX1_weightOfAll_0 0 rfl rfl ?_
  refine G_get (pc' := 4) (k := 1) C fi_X1 dX1_weightOfAll_1 tw_fl_X1_15 rfl (by decide) (CB_rd 29 rfl) rfl rfl ?_
  refine G_aload_n (pc' := 5) C dX1_weightOfAll_4 0 rfl rfl ?_
  refine G_get (pc' := 8) (k := 4) C fi_X1 dX1_weightOfAll_5 tw_fl_X1_37 rfl (by decide) (CB_rd 29 rfl) rfl rfl ?_
  replace h := ob h
  obtain ⟨v1, hv1, h⟩ := h
  refine G_ialdV (pc' := 9) C dX1_weightOfAll_8 (CB_rd 31 rfl) hv1 rfl ?_
  obtain rfl := Option.some.inj h
  exact G_iret C dX1_weightOfAll_9 (fun _ h => h)
theorem dX3_begin_0 : decode cX3_begin 0 = .ok (.aload_n 0, 1) := by decide +kernel
theorem dX3_begin_1 : decode cX3_begin 1 = .ok (.getfield 12, 3) := by decide +kernel
theorem dX3_begin_4 : decode cX3_begin 4 = .ok (.aload_n 1, 1) := by decide +kernel
theorem dX3_begin_5 : decode cX3_begin 5 = .ok (.iconst 0, 1) := by decide +kernel
theorem dX3_begin_6 : decode cX3_begin 6 = .ok (.invokevirtual 18, 3) := by decide +kernel
theorem dX3_begin_9 : decode cX3_begin 9 = .ok (.aload_n 0, 1) := by decide +kernel
theorem dX3_begin_10 : decode cX3_begin 10 = .ok (.aload_n 1, 1) := by decide +kernel
theorem dX3_begin_11 : decode cX3_begin 11 = .ok (.getfield 22, 3) := by decide +kernel
theorem dX3_begin_14 : decode cX3_begin 14 = .ok (.putfield 28, 3) := by decide +kernel
theorem dX3_begin_17 : decode cX3_begin 17 = .ok (.aload_n 0, 1) := by decide +kernel
theorem dX3_begin_18 : decode cX3_begin 18 = .ok (.iconst 0, 1) := by decide +kernel
theorem dX3_begin_19 : decode cX3_begin 19 = .ok (.putfield 29, 3) := by decide +kernel
theorem dX3_begin_22 : decode cX3_begin 22 = .ok (.aload_n 0, 1) := by decide +kernel
theorem dX3_begin_23 : decode cX3_begin 23 = .ok (.aload_n 0, 1) := by decide +kernel
theorem dX3_begin_24 : decode cX3_begin 24 = .ok (.getfield 12, 3) := by decide +kernel
theorem dX3_begin_27 : decode cX3_begin 27 = .ok (.getfield 32, 3) := by decide +kernel
theorem dX3_begin_30 : decode cX3_begin 30 = .ok (.putfield 35, 3) := by decide +kernel
theorem dX3_begin_33 : decode cX3_begin 33 = .ok (.aload_n 0, 1) := by decide +kernel
theorem dX3_begin_34 : decode cX3_begin 34 = .ok (.getfield 12, 3) := by decide +kernel
theorem dX3_begin_37 : decode cX3_begin 37 = .ok (.invokevirtual 38, 3) := by decide +kernel
theorem dX3_begin_40 : decode cX3_begin 40 = .ok (.ireturn, 1) := by decide +kernel
theorem yd_X3_begin : yX3_begin.cls = RX3 ∧ yX3_begin.cls ≠ "java/lang/invoke/MethodHandle" ∧ yX3_begin.cls ≠ "java/lang/invoke/VarHandle" ∧ (parseMethodDescriptor yX3_begin.desc).map (fun d => d.parameters.length) = some 1 := by decide +kernel
abbrev rmX3_begin : Room := { frames := 4, cells := 0, slots := 0, locals := 99 }
def fX3_begin (o : Nat) (z : CS) (a1 : Nat) : Option (Int32 × CS) :=
  (fX1_weigh_29 o z a1 (0 : Int32)).bind fun q1 =>
  (dT q1 a1).bind fun t2 =>
  (fX1_weightOfAll_29 o (cI (cI (cI q1 12 t2.2.1) 13 (0 : Int32)) 14 ((cI (cI q1 12 t2.2.1) 13 (0 : Int32)).1 16)) ).bind fun q3 =>
  some (q3, (cI (cI (cI q1 12 t2.2.1) 13 (0 : Int32)) 14 ((cI (cI q1 12 t2.2.1) 13 (0 : Int32)).1 16)))
set_option maxHeartbeats 4000000 in
set_option maxRecDepth 100000 in
theorem tX3_begin (κ : KK) (l : Launch) (o : Nat) (z : CS) (a1 : Nat) (q : Int32 × CS) (h : fX3_begin o z a1 = some q) : MM κ l yX3_begin cX3_begin 2 (some .int) rmX3_begin (CA o) [.ref (o + 28), .ref a1] (CB κ o z) (some (Value.int q.1)) (CB κ o q.2) := by
  refine MM.of (by decide +kernel) (Nat.le_of_ble_eq_true rfl) ?_
  intro p e s m below meth c C hnm
  unfold fX3_begin at h
  refine G_sub (lv' := [(0, .ref (o + 28)), (1, .ref a1)]) [0, 1] rfl ?_
  refine G_aload_n (pc' := 1) C dX3_begin_0 0 rfl rfl ?_
  refine G_get (pc' := 4) (k := 0) C fi_X3 dX3_begin_1 tw_fl_X3_12 rfl (by decide) (CB_rd 28 rfl) rfl rfl ?_
  refine G_aload_n (pc' := 5) C dX3_begin_4 1 rfl rfl ?_
  refine G_iconst (pc' := 6) (v := (0 : Int32)) C dX3_begin_5 (by decide) rfl ?_
  replace h := ob h
  obtain ⟨q1, hq1, h⟩ := h
  refine G_cV0 (pc' := 9) C dX3_begin_6 (tX1_weigh_29 κ l o z a1 (0 : Int32) q1 hq1) (wV tw_ml_X3_18 tw_im_X1_weigh tw_se_X1_X1_weigh tw_in_X1 tw_co_X1_weigh) yd_X1_weigh rfl fi_X1 (CB_rd 29 rfl) rfl rfl (by decide) rfl (Nat.le_of_ble_eq_true rfl) rfl rfl ?_
  refine G_aload_n (pc' := 10) C dX3_begin_9 0 rfl rfl ?_
  refine G_aload_n (pc' := 11) C dX3_begin_10 1 rfl rfl ?_
  replace h := ob h
  obtain ⟨t2, ht2, h⟩ := h
  refine G_get (pc' := 14) (k := 1) C fi_X8 dX3_begin_11 tw_fl_X3_22 rfl (by decide) (CB_T ht2) rfl rfl ?_
  refine G_put (pc' := 17) (k := 1) C fi_X3 dX3_begin_14 tw_fl_X3_28 rfl (by decide) rfl rfl rfl (Nat.le_of_ble_eq_true rfl) (CB_rd 28 rfl) (CB_wr (cI q1 12 t2.2.1) 28 (by decide) rfl rfl) rfl ?_
  refine G_aload_n (pc' := 18) C dX3_begin_17 0 rfl rfl ?_
  refine G_iconst (pc' := 19) (v := (0 : Int32)) C dX3_begin_18 (by decide) rfl ?_
  refine G_put (pc' := 22) (k := 2) C fi_X3 dX3_begin_19 tw_fl_X3_29 rfl (by decide) rfl rfl rfl (Nat.le_of_ble_eq_true rfl) (CB_rd 28 rfl) (CB_wr (cI (cI q1 12 t2.2.1) 13 (0 : Int32)) 28 (by decide) rfl rfl) rfl ?_
  refine G_aload_n (pc' := 23) C dX3_begin_22 0 rfl rfl ?_
  refine G_aload_n (pc' := 24) C dX3_begin_23 0 rfl rfl ?_
  refine G_get (pc' := 27) (k := 0) C fi_X3 dX3_begin_24 tw_fl_X3_12 rfl (by decide) (CB_rd 28 rfl) rfl rfl ?_
  refine G_get (pc' := 30) (k := 4) C fi_X1 dX3_begin_27 tw_fl_X3_32 rfl (by decide) (CB_rd 29 rfl) rfl rfl ?_
  refine G_put (pc' := 33) (k := 3) C fi_X3 dX3_begin_30 tw_fl_X3_35 rfl (by decide) rfl rfl rfl (Nat.le_of_ble_eq_true rfl) (CB_rd 28 rfl) (CB_wr (cI (cI (cI q1 12 t2.2.1) 13 (0 : Int32)) 14 ((cI (cI q1 12 t2.2.1) 13 (0 : Int32)).1 16)) 28 (by decide) rfl rfl) rfl ?_
  refine G_aload_n (pc' := 34) C dX3_begin_33 0 rfl rfl ?_
  refine G_get (pc' := 37) (k := 0) C fi_X3 dX3_begin_34 tw_fl_X3_12 rfl (by decide) (CB_rd 28 rfl) rfl rfl ?_
  replace h := ob h
  obtain ⟨q3, hq3, h⟩ := h
  refine G_cV0 (pc' := 40) C dX3_begin_37 (tX1_weightOfAll_29 κ l o (cI (cI (cI q1 12 t2.2.1) 13 (0 : Int32)) 14 ((cI (cI q1 12 t2.2.1) 13 (0 : Int32)).1 16))  q3 hq3) (wV tw_ml_X3_38 tw_im_X1_weightOfAll tw_se_X1_X1_weightOfAll tw_in_X1 tw_co_X1_weightOfAll) yd_X1_weightOfAll rfl fi_X1 (CB_rd 29 rfl) rfl rfl (by decide) rfl (Nat.le_of_ble_eq_true rfl) rfl rfl ?_
  refine G_widen (k := rmX3_begin.cells) (n := rmX3_begin.slots) (by decide) (by decide) ?_
  obtain rfl := Option.some.inj h
  exact G_iret C dX3_begin_40 (fun _ h => h)
theorem dX9_game_0 : decode cX9_game 0 = .ok (.aload_n 0, 1) := by decide +kernel
theorem dX9_game_1 : decode cX9_game 1 = .ok (.iload_n 1, 1) := by decide +kernel
theorem dX9_game_2 : decode cX9_game 2 = .ok (.invokevirtual 145, 3) := by decide +kernel
theorem dX9_game_5 : decode cX9_game 5 = .ok (.istore_n 2, 1) := by decide +kernel
theorem dX9_game_6 : decode cX9_game 6 = .ok (.iload_n 2, 1) := by decide +kernel
theorem dX9_game_7 : decode cX9_game 7 = .ok (.ifCond .eq 7, 3) := by decide +kernel
theorem dX9_game_10 : decode cX9_game 10 = .ok (.iload_n 2, 1) := by decide +kernel
theorem dX9_game_11 : decode cX9_game 11 = .ok (.goto 16, 3) := by decide +kernel
theorem dX9_game_14 : decode cX9_game 14 = .ok (.aload_n 0, 1) := by decide +kernel
theorem dX9_game_15 : decode cX9_game 15 = .ok (.getfield 78, 3) := by decide +kernel
theorem dX9_game_18 : decode cX9_game 18 = .ok (.aload_n 0, 1) := by decide +kernel
theorem dX9_game_19 : decode cX9_game 19 = .ok (.getfield 17, 3) := by decide +kernel
theorem dX9_game_22 : decode cX9_game 22 = .ok (.iload_n 1, 1) := by decide +kernel
theorem dX9_game_23 : decode cX9_game 23 = .ok (.aaload, 1) := by decide +kernel
theorem dX9_game_24 : decode cX9_game 24 = .ok (.invokevirtual 300, 3) := by decide +kernel
theorem dX9_game_27 : decode cX9_game 27 = .ok (.ireturn, 1) := by decide +kernel
theorem yd_X9_game : yX9_game.cls = RX9 ∧ yX9_game.cls ≠ "java/lang/invoke/MethodHandle" ∧ yX9_game.cls ≠ "java/lang/invoke/VarHandle" ∧ (parseMethodDescriptor yX9_game.desc).map (fun d => d.parameters.length) = some 1 := by decide +kernel
abbrev rmX9_game : Room := { frames := 5, cells := 0, slots := 0, locals := 120 }
def fX9_game (o : Nat) (z : CS) (a1 : Int32) : Option (Int32 × CS) :=
  (fX9_findingOfTask o z a1).bind fun q1 =>
  if q1.1 = 0 then
    (aQ 8 (q1.2.2.2.1 1) a1).bind fun v2 =>
    (v2).bind fun ad3 =>
    (fX3_begin o q1.2 ad3).bind fun q4 =>
    some (q4.1, q4.2)
  else
    some (q1.1, q1.2)
set_option maxHeartbeats 4000000 in
set_option maxRecDepth 100000 in
theorem tX9_game (κ : KK) (l : Launch) (o : Nat) (z : CS) (a1 : Int32) (q : Int32 × CS) (h : fX9_game o z a1 = some q) : MM κ l yX9_game cX9_game 3 (some .int) rmX9_game (CA o) [.ref o, .int a1] (CB κ o z) (some (Value.int q.1)) (CB κ o q.2) := by
  refine MM.of (by decide +kernel) (Nat.le_of_ble_eq_true rfl) ?_
  intro p e s m below meth c C hnm
  unfold fX9_game at h
  refine G_sub (lv' := [(0, .ref o), (1, .int a1)]) [0, 1] rfl ?_
  refine G_aload_n (pc' := 1) C dX9_game_0 0 rfl rfl ?_
  refine G_iload_n (pc' := 2) C dX9_game_1 1 rfl rfl ?_
  replace h := ob h
  obtain ⟨q1, hq1, h⟩ := h
  refine G_cV0 (pc' := 5) C dX9_game_2 (tX9_findingOfTask κ l o z a1 q1 hq1) (wV tw_ml_X9_145 tw_im_X9_findingOfTask tw_se_X9_X9_findingOfTask tw_in_X9 tw_co_X9_findingOfTask) yd_X9_findingOfTask rfl fi_X9 (CB_rd 0 rfl) rfl rfl (by decide) rfl (Nat.le_of_ble_eq_true rfl) rfl rfl ?_
  refine G_istore_n (pc' := 6) C dX9_game_5 [(2, .int q1.1), (0, .ref o), (1, .int a1)] (by decide) rfl rfl ?_
  refine G_iload_n (pc' := 7) C dX9_game_6 0 rfl rfl ?_
  refine G_if_eq (tgt := 14) (pc' := 10) C dX9_game_7 (by decide) rfl (fun hc => ?_) (fun hc => ?_)
  · replace h := z_ip hc h
    refine G_aload_n (pc' := 15) C dX9_game_14 1 rfl rfl ?_
    refine G_get (pc' := 18) (k := 11) C fi_X9 dX9_game_15 tw_fl_X9_78 rfl (by decide) (CB_rd 0 rfl) rfl rfl ?_
    refine G_aload_n (pc' := 19) C dX9_game_18 1 rfl rfl ?_
    refine G_get (pc' := 22) (k := 1) C fi_X9 dX9_game_19 tw_fl_X9_17 rfl (by decide) (CB_rd 0 rfl) rfl rfl ?_
    refine G_iload_n (pc' := 23) C dX9_game_22 2 rfl rfl ?_
    replace h := ob h
    obtain ⟨v2, hv2, h⟩ := h
    refine G_aald5V (pc' := 24) C dX9_game_23 (CB_rd 2 rfl) hv2 rfl ?_
    replace h := ob h
    obtain ⟨ad3, had3, h⟩ := h
    subst had3
    replace h := ob h
    obtain ⟨q4, hq4, h⟩ := h
    refine G_cV0 (pc' := 27) C dX9_game_24 (tX3_begin κ l o q1.2 ad3 q4 hq4) (wV tw_ml_X9_300 tw_im_X3_begin tw_se_X3_X3_begin tw_in_X3 tw_co_X3_begin) yd_X3_begin rfl fi_X3 (CB_rd 28 rfl) rfl rfl (by decide) rfl (Nat.le_of_ble_eq_true rfl) rfl rfl ?_
    refine G_widen (k := rmX9_game.cells) (n := rmX9_game.slots) (by decide) (by decide) ?_
    obtain rfl := Option.some.inj h
    exact G_iret C dX9_game_27 (fun _ h => h)
  · replace h := z_in hc h
    refine G_iload_n (pc' := 11) C dX9_game_10 0 rfl rfl ?_
    refine G_goto (tgt := 27) C dX9_game_11 (by decide) ?_
    refine G_widen (k := rmX9_game.cells) (n := rmX9_game.slots) (by decide) (by decide) ?_
    obtain rfl := Option.some.inj h
    exact G_iret C dX9_game_27 (fun _ h => h)
theorem dX3_answer_0 : decode cX3_answer 0 = .ok (.iload_n 1, 1) := by decide +kernel
theorem dX3_answer_1 : decode cX3_answer 1 = .ok (.ifCond .lt 23, 3) := by decide +kernel
theorem dX3_answer_4 : decode cX3_answer 4 = .ok (.iload_n 1, 1) := by decide +kernel
theorem dX3_answer_5 : decode cX3_answer 5 = .ok (.aload_n 0, 1) := by decide +kernel
theorem dX3_answer_6 : decode cX3_answer 6 = .ok (.getfield 28, 3) := by decide +kernel
theorem dX3_answer_9 : decode cX3_answer 9 = .ok (.if_icmp .ge 15, 3) := by decide +kernel
theorem dX3_answer_12 : decode cX3_answer 12 = .ok (.aload_n 0, 1) := by decide +kernel
theorem dX3_answer_13 : decode cX3_answer 13 = .ok (.getfield 29, 3) := by decide +kernel
theorem dX3_answer_16 : decode cX3_answer 16 = .ok (.iload_n 1, 1) := by decide +kernel
theorem dX3_answer_17 : decode cX3_answer 17 = .ok (.ishr, 1) := by decide +kernel
theorem dX3_answer_18 : decode cX3_answer 18 = .ok (.iconst 1, 1) := by decide +kernel
theorem dX3_answer_19 : decode cX3_answer 19 = .ok (.iand, 1) := by decide +kernel
theorem dX3_answer_20 : decode cX3_answer 20 = .ok (.iconst 1, 1) := by decide +kernel
theorem dX3_answer_21 : decode cX3_answer 21 = .ok (.if_icmp .ne 6, 3) := by decide +kernel
theorem dX3_answer_24 : decode cX3_answer 24 = .ok (.bipush (-2), 2) := by decide +kernel
theorem dX3_answer_26 : decode cX3_answer 26 = .ok (.ireturn, 1) := by decide +kernel
theorem dX3_answer_27 : decode cX3_answer 27 = .ok (.aload_n 0, 1) := by decide +kernel
theorem dX3_answer_28 : decode cX3_answer 28 = .ok (.getfield 12, 3) := by decide +kernel
theorem dX3_answer_31 : decode cX3_answer 31 = .ok (.aload_n 0, 1) := by decide +kernel
theorem dX3_answer_32 : decode cX3_answer 32 = .ok (.getfield 35, 3) := by decide +kernel
theorem dX3_answer_35 : decode cX3_answer 35 = .ok (.invokevirtual 42, 3) := by decide +kernel
theorem dX3_answer_38 : decode cX3_answer 38 = .ok (.ifCond .eq 6, 3) := by decide +kernel
theorem dX3_answer_41 : decode cX3_answer 41 = .ok (.bipush (-3), 2) := by decide +kernel
theorem dX3_answer_43 : decode cX3_answer 43 = .ok (.ireturn, 1) := by decide +kernel
theorem dX3_answer_44 : decode cX3_answer 44 = .ok (.aload_n 0, 1) := by decide +kernel
theorem dX3_answer_45 : decode cX3_answer 45 = .ok (.getfield 35, 3) := by decide +kernel
theorem dX3_answer_48 : decode cX3_answer 48 = .ok (.iload_n 1, 1) := by decide +kernel
theorem dX3_answer_49 : decode cX3_answer 49 = .ok (.invokestatic 46, 3) := by decide +kernel
theorem dX3_answer_52 : decode cX3_answer 52 = .ok (.isub, 1) := by decide +kernel
theorem dX3_answer_53 : decode cX3_answer 53 = .ok (.istore_n 2, 1) := by decide +kernel
theorem dX3_answer_54 : decode cX3_answer 54 = .ok (.iload_n 2, 1) := by decide +kernel
theorem dX3_answer_55 : decode cX3_answer 55 = .ok (.iload_n 1, 1) := by decide +kernel
theorem dX3_answer_56 : decode cX3_answer 56 = .ok (.invokestatic 46, 3) := by decide +kernel
theorem dX3_answer_59 : decode cX3_answer 59 = .ok (.isub, 1) := by decide +kernel
theorem dX3_answer_60 : decode cX3_answer 60 = .ok (.istore_n 3, 1) := by decide +kernel
theorem dX3_answer_61 : decode cX3_answer 61 = .ok (.aload_n 0, 1) := by decide +kernel
theorem dX3_answer_62 : decode cX3_answer 62 = .ok (.getfield 12, 3) := by decide +kernel
theorem dX3_answer_65 : decode cX3_answer 65 = .ok (.getfield 50, 3) := by decide +kernel
theorem dX3_answer_68 : decode cX3_answer 68 = .ok (.iload_n 2, 1) := by decide +kernel
theorem dX3_answer_69 : decode cX3_answer 69 = .ok (.iaload, 1) := by decide +kernel
theorem dX3_answer_70 : decode cX3_answer 70 = .ok (.aload_n 0, 1) := by decide +kernel
theorem dX3_answer_71 : decode cX3_answer 71 = .ok (.getfield 12, 3) := by decide +kernel
theorem dX3_answer_74 : decode cX3_answer 74 = .ok (.getfield 50, 3) := by decide +kernel
theorem dX3_answer_77 : decode cX3_answer 77 = .ok (.iload_n 3, 1) := by decide +kernel
theorem dX3_answer_78 : decode cX3_answer 78 = .ok (.iaload, 1) := by decide +kernel
theorem dX3_answer_79 : decode cX3_answer 79 = .ok (.if_icmp .le 7, 3) := by decide +kernel
theorem dX3_answer_82 : decode cX3_answer 82 = .ok (.iconst 1, 1) := by decide +kernel
theorem dX3_answer_83 : decode cX3_answer 83 = .ok (.goto 4, 3) := by decide +kernel
theorem dX3_answer_86 : decode cX3_answer 86 = .ok (.iconst 0, 1) := by decide +kernel
theorem dX3_answer_87 : decode cX3_answer 87 = .ok (.istore 4, 2) := by decide +kernel
theorem dX3_answer_89 : decode cX3_answer 89 = .ok (.aload_n 0, 1) := by decide +kernel
theorem dX3_answer_90 : decode cX3_answer 90 = .ok (.iload 4, 2) := by decide +kernel
theorem dX3_answer_92 : decode cX3_answer 92 = .ok (.iconst 1, 1) := by decide +kernel
theorem dX3_answer_93 : decode cX3_answer 93 = .ok (.if_icmp .ne 7, 3) := by decide +kernel
theorem dX3_answer_96 : decode cX3_answer 96 = .ok (.iload_n 2, 1) := by decide +kernel
theorem dX3_answer_97 : decode cX3_answer 97 = .ok (.goto 4, 3) := by decide +kernel
theorem dX3_answer_100 : decode cX3_answer 100 = .ok (.iload_n 3, 1) := by decide +kernel
theorem dX3_answer_101 : decode cX3_answer 101 = .ok (.putfield 35, 3) := by decide +kernel
theorem dX3_answer_104 : decode cX3_answer 104 = .ok (.aload_n 0, 1) := by decide +kernel
theorem dX3_answer_105 : decode cX3_answer 105 = .ok (.dup, 1) := by decide +kernel
theorem dX3_answer_106 : decode cX3_answer 106 = .ok (.getfield 29, 3) := by decide +kernel
theorem dX3_answer_109 : decode cX3_answer 109 = .ok (.iconst 1, 1) := by decide +kernel
theorem dX3_answer_110 : decode cX3_answer 110 = .ok (.iload_n 1, 1) := by decide +kernel
theorem dX3_answer_111 : decode cX3_answer 111 = .ok (.ishl, 1) := by decide +kernel
theorem dX3_answer_112 : decode cX3_answer 112 = .ok (.ior, 1) := by decide +kernel
theorem dX3_answer_113 : decode cX3_answer 113 = .ok (.putfield 29, 3) := by decide +kernel
theorem dX3_answer_116 : decode cX3_answer 116 = .ok (.bipush 10, 2) := by decide +kernel
theorem dX3_answer_118 : decode cX3_answer 118 = .ok (.aload_n 0, 1) := by decide +kernel
theorem dX3_answer_119 : decode cX3_answer 119 = .ok (.getfield 12, 3) := by decide +kernel
theorem dX3_answer_122 : decode cX3_answer 122 = .ok (.getfield 50, 3) := by decide +kernel
theorem dX3_answer_125 : decode cX3_answer 125 = .ok (.aload_n 0, 1) := by decide +kernel
theorem dX3_answer_126 : decode cX3_answer 126 = .ok (.getfield 35, 3) := by decide +kernel
theorem dX3_answer_129 : decode cX3_answer 129 = .ok (.iaload, 1) := by decide +kernel
theorem dX3_answer_130 : decode cX3_answer 130 = .ok (.imul, 1) := by decide +kernel
theorem dX3_answer_131 : decode cX3_answer 131 = .ok (.iload 4, 2) := by decide +kernel
theorem dX3_answer_133 : decode cX3_answer 133 = .ok (.iadd, 1) := by decide +kernel
theorem dX3_answer_134 : decode cX3_answer 134 = .ok (.ireturn, 1) := by decide +kernel
theorem yd_X3_answer : yX3_answer.cls = RX3 ∧ yX3_answer.cls ≠ "java/lang/invoke/MethodHandle" ∧ yX3_answer.cls ≠ "java/lang/invoke/VarHandle" ∧ (parseMethodDescriptor yX3_answer.desc).map (fun d => d.parameters.length) = some 1 := by decide +kernel
abbrev rmX3_answer : Room := { frames := 1, cells := 0, slots := 0, locals := 22 }
def fX3_answer_J101 (o : Nat) (z : CS) (l1 : Int32) (l4 : Int32) (s0 : Int32) : Option (Int32 × CS) :=
  (aI 6561 ((cI (cI z 14 s0) 13 (((cI z 14 s0).1 13) ||| ((1 : Int32) <<< (l1 &&& 31)))).2.1 18) ((cI (cI z 14 s0) 13 (((cI z 14 s0).1 13) ||| ((1 : Int32) <<< (l1 &&& 31)))).1 14)).bind fun v6 =>
  some ((((10 : Int32) * v6) + l4), (cI (cI z 14 s0) 13 (((cI z 14 s0).1 13) ||| ((1 : Int32) <<< (l1 &&& 31)))))
def fX3_answer_J87 (o : Nat) (z : CS) (l1 : Int32) (l2 : Int32) (l3 : Int32) (s0 : Int32) : Option (Int32 × CS) :=
  if s0 = (1 : Int32) then
    fX3_answer_J101 o z l1 s0 l2
  else
    fX3_answer_J101 o z l1 s0 l3
def fX3_answer_J24 (o : Nat) (z : CS) : Option (Int32 × CS) :=
  some ((-2 : Int32), z)
def fX3_answer (o : Nat) (z : CS) (a1 : Int32) : Option (Int32 × CS) :=
  if a1 < 0 then
    fX3_answer_J24 o z
  else
    if (z.1 12) ≤ a1 then
      fX3_answer_J24 o z
    else
      if (((z.1 13) >>> (a1 &&& 31)) &&& (1 : Int32)) = (1 : Int32) then
        fX3_answer_J24 o z
      else
        (fX1_isSettled_29 o z (z.1 14)).bind fun q1 =>
        if q1 = 0 then
          (fX1_powerOf a1).bind fun q2 =>
          (fX1_powerOf a1).bind fun q3 =>
          (aI 6561 (z.2.1 18) ((z.1 14) - q2)).bind fun v4 =>
          (aI 6561 (z.2.1 18) (((z.1 14) - q2) - q3)).bind fun v5 =>
          if v4 ≤ v5 then
            fX3_answer_J87 o z a1 ((z.1 14) - q2) (((z.1 14) - q2) - q3) (0 : Int32)
          else
            fX3_answer_J87 o z a1 ((z.1 14) - q2) (((z.1 14) - q2) - q3) (1 : Int32)
        else
          some ((-3 : Int32), z)
set_option maxHeartbeats 4000000 in
set_option maxRecDepth 100000 in
theorem tX3_answer (κ : KK) (l : Launch) (o : Nat) (z : CS) (a1 : Int32) (q : Int32 × CS) (h : fX3_answer o z a1 = some q) : MM κ l yX3_answer cX3_answer 5 (some .int) rmX3_answer (CA o) [.ref (o + 28), .int a1] (CB κ o z) (some (Value.int q.1)) (CB κ o q.2) := by
  refine MM.of (by decide +kernel) (Nat.le_of_ble_eq_true rfl) ?_
  intro p e s m below meth c C hnm
  have J101 : ∀ (z : CS) (l1 : Int32) (l4 : Int32) (s0 : Int32), fX3_answer_J101 o z l1 l4 s0 = some q → GC κ p l e s m ([.ref (o + 28), .int a1] : List Value).toArray below meth c rmX3_answer 5 o (some (Value.int q.1)) (CB κ o q.2) 0 0 z 101 [(0, .ref (o + 28)), (1, .int l1), (4, .int l4)] [.int s0, .ref (o + 28)] := by
    intro z l1 l4 s0 h
    unfold fX3_answer_J101 at h
    refine G_put (pc' := 104) (k := 3) C fi_X3 dX3_answer_101 tw_fl_X3_35 rfl (by decide) rfl rfl rfl (Nat.le_of_ble_eq_true rfl) (CB_rd 28 rfl) (CB_wr (cI z 14 s0) 28 (by decide) rfl rfl) rfl ?_
    refine G_aload_n (pc' := 105) C dX3_answer_104 0 rfl rfl ?_
    refine G_dup (pc' := 106) C dX3_answer_105 rfl rfl ?_
    refine G_get (pc' := 109) (k := 2) C fi_X3 dX3_answer_106 tw_fl_X3_29 rfl (by decide) (CB_rd 28 rfl) rfl rfl ?_
    refine G_iconst (pc' := 110) (v := (1 : Int32)) C dX3_answer_109 (by decide) rfl ?_
    refine G_iload_n (pc' := 111) C dX3_answer_110 1 rfl rfl ?_
    refine G_ishl (pc' := 112) C dX3_answer_111 rfl ?_
    refine G_ior (pc' := 113) C dX3_answer_112 rfl ?_
    refine G_put (pc' := 116) (k := 2) C fi_X3 dX3_answer_113 tw_fl_X3_29 rfl (by decide) rfl rfl rfl (Nat.le_of_ble_eq_true rfl) (CB_rd 28 rfl) (CB_wr (cI (cI z 14 s0) 13 (((cI z 14 s0).1 13) ||| ((1 : Int32) <<< (l1 &&& 31)))) 28 (by decide) rfl rfl) rfl ?_
    refine G_bipush (pc' := 118) (v := (10 : Int32)) C dX3_answer_116 (by decide) rfl ?_
    refine G_aload_n (pc' := 119) C dX3_answer_118 0 rfl rfl ?_
    refine G_get (pc' := 122) (k := 0) C fi_X3 dX3_answer_119 tw_fl_X3_12 rfl (by decide) (CB_rd 28 rfl) rfl rfl ?_
    refine G_get (pc' := 125) (k := 1) C fi_X1 dX3_answer_122 tw_fl_X3_50 rfl (by decide) (CB_rd 29 rfl) rfl rfl ?_
    refine G_aload_n (pc' := 126) C dX3_answer_125 0 rfl rfl ?_
    refine G_get (pc' := 129) (k := 3) C fi_X3 dX3_answer_126 tw_fl_X3_35 rfl (by decide) (CB_rd 28 rfl) rfl rfl ?_
    replace h := ob h
    obtain ⟨v6, hv6, h⟩ := h
    refine G_ialdV (pc' := 130) C dX3_answer_129 (CB_rd 31 rfl) hv6 rfl ?_
    refine G_imul (pc' := 131) C dX3_answer_130 rfl ?_
    refine G_iload (pc' := 133) C dX3_answer_131 2 rfl rfl ?_
    refine G_iadd (pc' := 134) C dX3_answer_133 rfl ?_
    refine G_widen (k := rmX3_answer.cells) (n := rmX3_answer.slots) (by decide) (by decide) ?_
    obtain rfl := Option.some.inj h
    exact G_iret C dX3_answer_134 (fun _ h => h)
  have J87 : ∀ (z : CS) (l1 : Int32) (l2 : Int32) (l3 : Int32) (s0 : Int32), fX3_answer_J87 o z l1 l2 l3 s0 = some q → GC κ p l e s m ([.ref (o + 28), .int a1] : List Value).toArray below meth c rmX3_answer 5 o (some (Value.int q.1)) (CB κ o q.2) 0 0 z 87 [(0, .ref (o + 28)), (1, .int l1), (2, .int l2), (3, .int l3)] [.int s0] := by
    intro z l1 l2 l3 s0 h
    unfold fX3_answer_J87 at h
    refine G_istore (pc' := 89) C dX3_answer_87 [(4, .int s0), (0, .ref (o + 28)), (1, .int l1), (2, .int l2), (3, .int l3)] (by decide) rfl rfl ?_
    refine G_aload_n (pc' := 90) C dX3_answer_89 1 rfl rfl ?_
    refine G_iload (pc' := 92) C dX3_answer_90 0 rfl rfl ?_
    refine G_iconst (pc' := 93) (v := (1 : Int32)) C dX3_answer_92 (by decide) rfl ?_
    refine G_icmp_ne (tgt := 100) (pc' := 96) C dX3_answer_93 (by decide) rfl (fun hc => ?_) (fun hc => ?_)
    · replace h := z_in hc h
      refine G_iload_n (pc' := 101) C dX3_answer_100 4 rfl rfl ?_
      exact G_sub (lv' := [(0, .ref (o + 28)), (1, .int l1), (4, .int s0)]) [1, 2, 0] rfl (J101 z l1 s0 l3 h)
    · replace h := z_ip hc h
      refine G_iload_n (pc' := 97) C dX3_answer_96 3 rfl rfl ?_
      refine G_goto (tgt := 101) C dX3_answer_97 (by decide) ?_
      exact G_sub (lv' := [(0, .ref (o + 28)), (1, .int l1), (4, .int s0)]) [1, 2, 0] rfl (J101 z l1 s0 l2 h)
  have J24 : ∀ (z : CS), fX3_answer_J24 o z = some q → GC κ p l e s m ([.ref (o + 28), .int a1] : List Value).toArray below meth c rmX3_answer 5 o (some (Value.int q.1)) (CB κ o q.2) 0 0 z 24 [] [] := by
    intro z h
    unfold fX3_answer_J24 at h
    refine G_bipush (pc' := 26) (v := (-2 : Int32)) C dX3_answer_24 (by decide) rfl ?_
    refine G_widen (k := rmX3_answer.cells) (n := rmX3_answer.slots) (by decide) (by decide) ?_
    obtain rfl := Option.some.inj h
    exact G_iret C dX3_answer_26 (fun _ h => h)
  unfold fX3_answer at h
  refine G_sub (lv' := [(0, .ref (o + 28)), (1, .int a1)]) [0, 1] rfl ?_
  refine G_iload_n (pc' := 1) C dX3_answer_0 1 rfl rfl ?_
  refine G_if_lt (tgt := 24) (pc' := 4) C dX3_answer_1 (by decide) rfl (fun hc => ?_) (fun hc => ?_)
  · replace h := z_ip hc h
    exact G_sub (lv' := []) [] rfl (J24 z h)
  · replace h := z_in hc h
    refine G_iload_n (pc' := 5) C dX3_answer_4 1 rfl rfl ?_
    refine G_aload_n (pc' := 6) C dX3_answer_5 0 rfl rfl ?_
    refine G_get (pc' := 9) (k := 1) C fi_X3 dX3_answer_6 tw_fl_X3_28 rfl (by decide) (CB_rd 28 rfl) rfl rfl ?_
    refine G_icmp_ge (tgt := 24) (pc' := 12) C dX3_answer_9 (by decide) rfl (fun hc => ?_) (fun hc => ?_)
    · replace h := z_ip hc h
      exact G_sub (lv' := []) [] rfl (J24 z h)
    · replace h := z_in hc h
      refine G_aload_n (pc' := 13) C dX3_answer_12 0 rfl rfl ?_
      refine G_get (pc' := 16) (k := 2) C fi_X3 dX3_answer_13 tw_fl_X3_29 rfl (by decide) (CB_rd 28 rfl) rfl rfl ?_
      refine G_iload_n (pc' := 17) C dX3_answer_16 1 rfl rfl ?_
      refine G_ishr (pc' := 18) C dX3_answer_17 rfl ?_
      refine G_iconst (pc' := 19) (v := (1 : Int32)) C dX3_answer_18 (by decide) rfl ?_
      refine G_iand (pc' := 20) C dX3_answer_19 rfl ?_
      refine G_iconst (pc' := 21) (v := (1 : Int32)) C dX3_answer_20 (by decide) rfl ?_
      refine G_icmp_ne (tgt := 27) (pc' := 24) C dX3_answer_21 (by decide) rfl (fun hc => ?_) (fun hc => ?_)
      · replace h := z_in hc h
        refine G_aload_n (pc' := 28) C dX3_answer_27 0 rfl rfl ?_
        refine G_get (pc' := 31) (k := 0) C fi_X3 dX3_answer_28 tw_fl_X3_12 rfl (by decide) (CB_rd 28 rfl) rfl rfl ?_
        refine G_aload_n (pc' := 32) C dX3_answer_31 0 rfl rfl ?_
        refine G_get (pc' := 35) (k := 3) C fi_X3 dX3_answer_32 tw_fl_X3_35 rfl (by decide) (CB_rd 28 rfl) rfl rfl ?_
        replace h := ob h
        obtain ⟨q1, hq1, h⟩ := h
        refine G_cV0 (pc' := 38) C dX3_answer_35 (tX1_isSettled_29 κ l o z (z.1 14) q1 hq1) (wV tw_ml_X3_42 tw_im_X1_isSettled tw_se_X1_X1_isSettled tw_in_X1 tw_co_X1_isSettled) yd_X1_isSettled rfl fi_X1 (CB_rd 29 rfl) rfl rfl (by decide) rfl (Nat.le_of_ble_eq_true rfl) rfl rfl ?_
        refine G_if_eq (tgt := 44) (pc' := 41) C dX3_answer_38 (by decide) rfl (fun hc => ?_) (fun hc => ?_)
        · replace h := z_ip hc h
          refine G_aload_n (pc' := 45) C dX3_answer_44 0 rfl rfl ?_
          refine G_get (pc' := 48) (k := 3) C fi_X3 dX3_answer_45 tw_fl_X3_35 rfl (by decide) (CB_rd 28 rfl) rfl rfl ?_
          refine G_iload_n (pc' := 49) C dX3_answer_48 1 rfl rfl ?_
          replace h := ob h
          obtain ⟨q2, hq2, h⟩ := h
          refine G_cS0 (pc' := 52) C dX3_answer_49 (tX1_powerOf κ l (CA o) (CB κ o z) a1 q2 hq2) (wS tw_ml_X3_46 tw_st_X1_powerOf tw_co_X1_powerOf tw_in_X1) yd_X1_powerOf rfl rfl rfl (by decide) rfl (Nat.le_of_ble_eq_true rfl) rfl rfl ?_
          refine G_isub (pc' := 53) C dX3_answer_52 rfl ?_
          refine G_istore_n (pc' := 54) C dX3_answer_53 [(2, .int ((z.1 14) - q2)), (0, .ref (o + 28)), (1, .int a1)] (by decide) rfl rfl ?_
          refine G_iload_n (pc' := 55) C dX3_answer_54 0 rfl rfl ?_
          refine G_iload_n (pc' := 56) C dX3_answer_55 2 rfl rfl ?_
          replace h := ob h
          obtain ⟨q3, hq3, h⟩ := h
          refine G_cS0 (pc' := 59) C dX3_answer_56 (tX1_powerOf κ l (CA o) (CB κ o z) a1 q3 hq3) (wS tw_ml_X3_46 tw_st_X1_powerOf tw_co_X1_powerOf tw_in_X1) yd_X1_powerOf rfl rfl rfl (by decide) rfl (Nat.le_of_ble_eq_true rfl) rfl rfl ?_
          refine G_isub (pc' := 60) C dX3_answer_59 rfl ?_
          refine G_istore_n (pc' := 61) C dX3_answer_60 [(3, .int (((z.1 14) - q2) - q3)), (2, .int ((z.1 14) - q2)), (0, .ref (o + 28)), (1, .int a1)] (by decide) rfl rfl ?_
          refine G_aload_n (pc' := 62) C dX3_answer_61 2 rfl rfl ?_
          refine G_get (pc' := 65) (k := 0) C fi_X3 dX3_answer_62 tw_fl_X3_12 rfl (by decide) (CB_rd 28 rfl) rfl rfl ?_
          refine G_get (pc' := 68) (k := 1) C fi_X1 dX3_answer_65 tw_fl_X3_50 rfl (by decide) (CB_rd 29 rfl) rfl rfl ?_
          refine G_iload_n (pc' := 69) C dX3_answer_68 1 rfl rfl ?_
          replace h := ob h
          obtain ⟨v4, hv4, h⟩ := h
          refine G_ialdV (pc' := 70) C dX3_answer_69 (CB_rd 31 rfl) hv4 rfl ?_
          refine G_aload_n (pc' := 71) C dX3_answer_70 2 rfl rfl ?_
          refine G_get (pc' := 74) (k := 0) C fi_X3 dX3_answer_71 tw_fl_X3_12 rfl (by decide) (CB_rd 28 rfl) rfl rfl ?_
          refine G_get (pc' := 77) (k := 1) C fi_X1 dX3_answer_74 tw_fl_X3_50 rfl (by decide) (CB_rd 29 rfl) rfl rfl ?_
          refine G_iload_n (pc' := 78) C dX3_answer_77 0 rfl rfl ?_
          replace h := ob h
          obtain ⟨v5, hv5, h⟩ := h
          refine G_ialdV (pc' := 79) C dX3_answer_78 (CB_rd 31 rfl) hv5 rfl ?_
          refine G_icmp_le (tgt := 86) (pc' := 82) C dX3_answer_79 (by decide) rfl (fun hc => ?_) (fun hc => ?_)
          · replace h := z_ip hc h
            refine G_iconst (pc' := 87) (v := (0 : Int32)) C dX3_answer_86 (by decide) rfl ?_
            exact G_sub (lv' := [(0, .ref (o + 28)), (1, .int a1), (2, .int ((z.1 14) - q2)), (3, .int (((z.1 14) - q2) - q3))]) [2, 3, 1, 0] rfl (J87 z a1 ((z.1 14) - q2) (((z.1 14) - q2) - q3) (0 : Int32) h)
          · replace h := z_in hc h
            refine G_iconst (pc' := 83) (v := (1 : Int32)) C dX3_answer_82 (by decide) rfl ?_
            refine G_goto (tgt := 87) C dX3_answer_83 (by decide) ?_
            exact G_sub (lv' := [(0, .ref (o + 28)), (1, .int a1), (2, .int ((z.1 14) - q2)), (3, .int (((z.1 14) - q2) - q3))]) [2, 3, 1, 0] rfl (J87 z a1 ((z.1 14) - q2) (((z.1 14) - q2) - q3) (1 : Int32) h)
        · replace h := z_in hc h
          refine G_bipush (pc' := 43) (v := (-3 : Int32)) C dX3_answer_41 (by decide) rfl ?_
          refine G_widen (k := rmX3_answer.cells) (n := rmX3_answer.slots) (by decide) (by decide) ?_
          obtain rfl := Option.some.inj h
          exact G_iret C dX3_answer_43 (fun _ h => h)
      · replace h := z_ip hc h
        exact G_sub (lv' := []) [] rfl (J24 z h)
