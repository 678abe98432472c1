theorem dX10_inputsOf_0 : decode cX10_inputsOf 0 = .ok (.iconst 0, 1) := by decide +kernel
theorem dX10_inputsOf_1 : decode cX10_inputsOf 1 = .ok (.istore_n 3, 1) := by decide +kernel
theorem dX10_inputsOf_2 : decode cX10_inputsOf 2 = .ok (.iconst 0, 1) := by decide +kernel
theorem dX10_inputsOf_3 : decode cX10_inputsOf 3 = .ok (.istore 4, 2) := by decide +kernel
theorem dX10_inputsOf_5 : decode cX10_inputsOf 5 = .ok (.iload 4, 2) := by decide +kernel
theorem dX10_inputsOf_7 : decode cX10_inputsOf 7 = .ok (.iconst 1, 1) := by decide +kernel
theorem dX10_inputsOf_8 : decode cX10_inputsOf 8 = .ok (.iload_n 2, 1) := by decide +kernel
theorem dX10_inputsOf_9 : decode cX10_inputsOf 9 = .ok (.ishl, 1) := by decide +kernel
theorem dX10_inputsOf_10 : decode cX10_inputsOf 10 = .ok (.if_icmp .ge 81, 3) := by decide +kernel
theorem dX10_inputsOf_13 : decode cX10_inputsOf 13 = .ok (.iconst 1, 1) := by decide +kernel
theorem dX10_inputsOf_14 : decode cX10_inputsOf 14 = .ok (.istore 5, 2) := by decide +kernel
theorem dX10_inputsOf_16 : decode cX10_inputsOf 16 = .ok (.iconst 0, 1) := by decide +kernel
theorem dX10_inputsOf_17 : decode cX10_inputsOf 17 = .ok (.istore 6, 2) := by decide +kernel
theorem dX10_inputsOf_19 : decode cX10_inputsOf 19 = .ok (.iload 6, 2) := by decide +kernel
theorem dX10_inputsOf_21 : decode cX10_inputsOf 21 = .ok (.iload_n 2, 1) := by decide +kernel
theorem dX10_inputsOf_22 : decode cX10_inputsOf 22 = .ok (.if_icmp .ge 47, 3) := by decide +kernel
theorem dX10_inputsOf_25 : decode cX10_inputsOf 25 = .ok (.iload 5, 2) := by decide +kernel
theorem dX10_inputsOf_27 : decode cX10_inputsOf 27 = .ok (.aload_n 0, 1) := by decide +kernel
theorem dX10_inputsOf_28 : decode cX10_inputsOf 28 = .ok (.iload_n 1, 1) := by decide +kernel
theorem dX10_inputsOf_29 : decode cX10_inputsOf 29 = .ok (.iload 6, 2) := by decide +kernel
theorem dX10_inputsOf_31 : decode cX10_inputsOf 31 = .ok (.invokevirtual 173, 3) := by decide +kernel
theorem dX10_inputsOf_34 : decode cX10_inputsOf 34 = .ok (.iconst 2, 1) := by decide +kernel
theorem dX10_inputsOf_35 : decode cX10_inputsOf 35 = .ok (.if_icmp .eq 20, 3) := by decide +kernel
theorem dX10_inputsOf_38 : decode cX10_inputsOf 38 = .ok (.aload_n 0, 1) := by decide +kernel
theorem dX10_inputsOf_39 : decode cX10_inputsOf 39 = .ok (.iload_n 1, 1) := by decide +kernel
theorem dX10_inputsOf_40 : decode cX10_inputsOf 40 = .ok (.iload 6, 2) := by decide +kernel
theorem dX10_inputsOf_42 : decode cX10_inputsOf 42 = .ok (.invokevirtual 173, 3) := by decide +kernel
theorem dX10_inputsOf_45 : decode cX10_inputsOf 45 = .ok (.iload 4, 2) := by decide +kernel
theorem dX10_inputsOf_47 : decode cX10_inputsOf 47 = .ok (.iload 6, 2) := by decide +kernel
theorem dX10_inputsOf_49 : decode cX10_inputsOf 49 = .ok (.ishr, 1) := by decide +kernel
theorem dX10_inputsOf_50 : decode cX10_inputsOf 50 = .ok (.iconst 1, 1) := by decide +kernel
theorem dX10_inputsOf_51 : decode cX10_inputsOf 51 = .ok (.iand, 1) := by decide +kernel
theorem dX10_inputsOf_52 : decode cX10_inputsOf 52 = .ok (.if_icmp .ne 7, 3) := by decide +kernel
theorem dX10_inputsOf_55 : decode cX10_inputsOf 55 = .ok (.iconst 1, 1) := by decide +kernel
theorem dX10_inputsOf_56 : decode cX10_inputsOf 56 = .ok (.goto 4, 3) := by decide +kernel
theorem dX10_inputsOf_59 : decode cX10_inputsOf 59 = .ok (.iconst 0, 1) := by decide +kernel
theorem dX10_inputsOf_60 : decode cX10_inputsOf 60 = .ok (.iand, 1) := by decide +kernel
theorem dX10_inputsOf_61 : decode cX10_inputsOf 61 = .ok (.istore 5, 2) := by decide +kernel
theorem dX10_inputsOf_63 : decode cX10_inputsOf 63 = .ok (.iinc 6 1, 3) := by decide +kernel
theorem dX10_inputsOf_66 : decode cX10_inputsOf 66 = .ok (.goto (-47), 3) := by decide +kernel
theorem dX10_inputsOf_69 : decode cX10_inputsOf 69 = .ok (.iload_n 3, 1) := by decide +kernel
theorem dX10_inputsOf_70 : decode cX10_inputsOf 70 = .ok (.iload 5, 2) := by decide +kernel
theorem dX10_inputsOf_72 : decode cX10_inputsOf 72 = .ok (.ifCond .eq 10, 3) := by decide +kernel
theorem dX10_inputsOf_75 : decode cX10_inputsOf 75 = .ok (.iconst 1, 1) := by decide +kernel
theorem dX10_inputsOf_76 : decode cX10_inputsOf 76 = .ok (.iload 4, 2) := by decide +kernel
theorem dX10_inputsOf_78 : decode cX10_inputsOf 78 = .ok (.ishl, 1) := by decide +kernel
theorem dX10_inputsOf_79 : decode cX10_inputsOf 79 = .ok (.goto 4, 3) := by decide +kernel
theorem dX10_inputsOf_82 : decode cX10_inputsOf 82 = .ok (.iconst 0, 1) := by decide +kernel
theorem dX10_inputsOf_83 : decode cX10_inputsOf 83 = .ok (.ior, 1) := by decide +kernel
theorem dX10_inputsOf_84 : decode cX10_inputsOf 84 = .ok (.istore_n 3, 1) := by decide +kernel
theorem dX10_inputsOf_85 : decode cX10_inputsOf 85 = .ok (.iinc 4 1, 3) := by decide +kernel
theorem dX10_inputsOf_88 : decode cX10_inputsOf 88 = .ok (.goto (-83), 3) := by decide +kernel
theorem dX10_inputsOf_91 : decode cX10_inputsOf 91 = .ok (.iload_n 3, 1) := by decide +kernel
theorem dX10_inputsOf_92 : decode cX10_inputsOf 92 = .ok (.ireturn, 1) := by decide +kernel
abbrev rmX10_inputsOf : Room := { frames := 1, cells := 0, slots := 0, locals := 22 }
theorem yd_X10_inputsOf : yX10_inputsOf.cls = RX10 ∧ yX10_inputsOf.cls ≠ "java/lang/invoke/MethodHandle" ∧ yX10_inputsOf.cls ≠ "java/lang/invoke/VarHandle" ∧ (parseMethodDescriptor yX10_inputsOf.desc).map (fun d => d.parameters.length) = some 2 := by decide +kernel
def fX10_inputsOf_L19_J60 (r : RS) (l1 : Int32) (l2 : Int32) (l3 : Int32) (l4 : Int32) (l6 : Int32) (s0 : Int32) (s1 : Int32) : Option ((Int32 × Int32) ⊕ Int32) :=
  some (.inl ((s1 &&& s0), (l6 + (1 : Int32))))
def fX10_inputsOf_L19_J55 (r : RS) (l1 : Int32) (l2 : Int32) (l3 : Int32) (l4 : Int32) (l6 : Int32) (s0 : Int32) : Option ((Int32 × Int32) ⊕ Int32) :=
  fX10_inputsOf_L19_J60 r l1 l2 l3 l4 l6 (1 : Int32) s0
def fX10_inputsOf_L19 (r : RS) (l1 : Int32) (l2 : Int32) (l3 : Int32) (l4 : Int32) (l5 : Int32) (l6 : Int32) : Option ((Int32 × Int32) ⊕ Int32) :=
  if l2 ≤ l6 then
    some (.inr l5)
  else
    (fX10_digit r l1 l6).bind fun q1 =>
    if q1 = (2 : Int32) then
      fX10_inputsOf_L19_J55 r l1 l2 l3 l4 l6 l5
    else
      (fX10_digit r l1 l6).bind fun q2 =>
      if q2 = ((l4 >>> (l6 &&& 31)) &&& (1 : Int32)) then
        fX10_inputsOf_L19_J55 r l1 l2 l3 l4 l6 l5
      else
        fX10_inputsOf_L19_J60 r l1 l2 l3 l4 l6 (0 : Int32) l5
def fX10_inputsOf_L5_J83 (r : RS) (l1 : Int32) (l2 : Int32) (l4 : Int32) (s0 : Int32) (s1 : Int32) : Option ((Int32 × Int32) ⊕ Int32) :=
  some (.inl ((s1 ||| s0), (l4 + (1 : Int32))))
def fX10_inputsOf_L5 (r : RS) (l1 : Int32) (l2 : Int32) (l3 : Int32) (l4 : Int32) : Option ((Int32 × Int32) ⊕ Int32) :=
  if ((1 : Int32) <<< (l2 &&& 31)) ≤ l4 then
    some (.inr l3)
  else
    (lpN (fun u => fX10_inputsOf_L19 r l1 l2 l3 l4 u.1 u.2) bigN ((1 : Int32), (0 : Int32))).bind fun e3 =>
    if e3 = 0 then
      fX10_inputsOf_L5_J83 r l1 l2 l4 (0 : Int32) l3
    else
      fX10_inputsOf_L5_J83 r l1 l2 l4 ((1 : Int32) <<< (l4 &&& 31)) l3
def fX10_inputsOf (r : RS) (a1 : Int32) (a2 : Int32) : Option (Int32) :=
  (lpN (fun u => fX10_inputsOf_L5 r a1 a2 u.1 u.2) bigN ((0 : Int32), (0 : Int32))).bind fun e4 =>
  some e4
set_option maxHeartbeats 4000000 in
set_option maxRecDepth 100000 in
theorem tX10_inputsOf_L19 {κ : KK} {p : Program} {l : Launch} {e : Env} {s : State} {m : MethodId} {args : Array Value} {below : List Frame} {meth : Method} {c : Code} (C : Cx κ p s m args meth c cX10_inputsOf 7 RX10 (some .int)) {o : Nat} {v : Option Value} {B' : Heap → Prop} {r : RS} {l1 : Int32} {l2 : Int32} {l3 : Int32} {l4 : Int32} {l5 : Int32} {l6 : Int32} {y : (Int32 × Int32) ⊕ Int32} (h : fX10_inputsOf_L19 r l1 l2 l3 l4 l5 l6 = some y) (kc : ∀ u, y = .inl u → GR κ p l e s m args below meth c rmX10_inputsOf 7 o v B' r 19 [(0, .ref o), (1, .int l1), (2, .int l2), (3, .int l3), (4, .int l4), (5, .int u.1), (6, .int u.2)] []) (kx : ∀ w, y = .inr w → GR κ p l e s m args below meth c rmX10_inputsOf 7 o v B' r 69 [(0, .ref o), (1, .int l1), (2, .int l2), (3, .int l3), (4, .int l4), (5, .int w)] []) : GR κ p l e s m args below meth c rmX10_inputsOf 7 o v B' r 19 [(0, .ref o), (1, .int l1), (2, .int l2), (3, .int l3), (4, .int l4), (5, .int l5), (6, .int l6)] [] := by
  have J60 : ∀ (l6 : Int32) (s0 : Int32) (s1 : Int32), fX10_inputsOf_L19_J60 r l1 l2 l3 l4 l6 s0 s1 = some y → GR κ p l e s m args below meth c rmX10_inputsOf 7 o v B' r 60 [(0, .ref o), (1, .int l1), (2, .int l2), (3, .int l3), (4, .int l4), (6, .int l6)] [.int s0, .int s1] := by
    intro l6 s0 s1 h
    unfold fX10_inputsOf_L19_J60 at h
    refine G_iand (pc' := 61) C dX10_inputsOf_60 rfl ?_
    refine G_istore (pc' := 63) C dX10_inputsOf_61 [(5, .int (s1 &&& s0)), (0, .ref o), (1, .int l1), (2, .int l2), (3, .int l3), (4, .int l4), (6, .int l6)] (by decide) rfl rfl ?_
    refine G_iinc (pc' := 66) C dX10_inputsOf_63 6 rfl rfl [(6, .int (l6 + (1 : Int32))), (5, .int (s1 &&& s0)), (0, .ref o), (1, .int l1), (2, .int l2), (3, .int l3), (4, .int l4)] (by decide) rfl rfl ?_
    refine G_goto (tgt := 19) C dX10_inputsOf_66 (by decide) ?_
    exact G_sub (lv' := [(0, .ref o), (1, .int l1), (2, .int l2), (3, .int l3), (4, .int l4), (5, .int (s1 &&& s0)), (6, .int (l6 + (1 : Int32)))]) [2, 3, 4, 5, 6, 1, 0] rfl (kc ((s1 &&& s0), (l6 + (1 : Int32))) (Option.some.inj h).symm)
  have J55 : ∀ (l6 : Int32) (s0 : Int32), fX10_inputsOf_L19_J55 r l1 l2 l3 l4 l6 s0 = some y → GR κ p l e s m args below meth c rmX10_inputsOf 7 o v B' r 55 [(0, .ref o), (1, .int l1), (2, .int l2), (3, .int l3), (4, .int l4), (6, .int l6)] [.int s0] := by
    intro l6 s0 h
    unfold fX10_inputsOf_L19_J55 at h
    refine G_iconst (pc' := 56) (v := (1 : Int32)) C dX10_inputsOf_55 (by decide) rfl ?_
    refine G_goto (tgt := 60) C dX10_inputsOf_56 (by decide) ?_
    exact G_sub (lv' := [(0, .ref o), (1, .int l1), (2, .int l2), (3, .int l3), (4, .int l4), (6, .int l6)]) [0, 1, 2, 3, 4, 5] rfl (J60 l6 (1 : Int32) s0 h)
  unfold fX10_inputsOf_L19 at h
  refine G_iload (pc' := 21) C dX10_inputsOf_19 6 rfl rfl ?_
  refine G_iload_n (pc' := 22) C dX10_inputsOf_21 2 rfl rfl ?_
  refine G_icmp_ge (tgt := 69) (pc' := 25) C dX10_inputsOf_22 (by decide) rfl (fun hc => ?_) (fun hc => ?_)
  · replace h := z_ip hc h
    exact G_sub (lv' := [(0, .ref o), (1, .int l1), (2, .int l2), (3, .int l3), (4, .int l4), (5, .int l5)]) [0, 1, 2, 3, 4, 5] rfl (kx _ (Option.some.inj h).symm)
  · replace h := z_in hc h
    refine G_iload (pc' := 27) C dX10_inputsOf_25 5 rfl rfl ?_
    refine G_aload_n (pc' := 28) C dX10_inputsOf_27 0 rfl rfl ?_
    refine G_iload_n (pc' := 29) C dX10_inputsOf_28 1 rfl rfl ?_
    refine G_iload (pc' := 31) C dX10_inputsOf_29 6 rfl rfl ?_
    obtain ⟨q1, hq1, h⟩ := ob h
    refine G_cV0 (pc' := 34) C dX10_inputsOf_31 (tX10_digit κ l o r l1 l6 q1 hq1) (wV tw_ml_X10_173 tw_im_X10_digit tw_se_X10_X10_digit tw_in_X10 tw_co_X10_digit) yd_X10_digit rfl fi_X10 (RB_rd 0 rfl) rfl rfl (by decide) rfl (Nat.le_of_ble_eq_true rfl) rfl rfl ?_
    refine G_iconst (pc' := 35) (v := (2 : Int32)) C dX10_inputsOf_34 (by decide) rfl ?_
    refine G_icmp_eq (tgt := 55) (pc' := 38) C dX10_inputsOf_35 (by decide) rfl (fun hc => ?_) (fun hc => ?_)
    · replace h := z_ip hc h
      exact G_sub (lv' := [(0, .ref o), (1, .int l1), (2, .int l2), (3, .int l3), (4, .int l4), (6, .int l6)]) [0, 1, 2, 3, 4, 6] rfl (J55 l6 l5 h)
    · replace h := z_in hc h
      refine G_aload_n (pc' := 39) C dX10_inputsOf_38 0 rfl rfl ?_
      refine G_iload_n (pc' := 40) C dX10_inputsOf_39 1 rfl rfl ?_
      refine G_iload (pc' := 42) C dX10_inputsOf_40 6 rfl rfl ?_
      obtain ⟨q2, hq2, h⟩ := ob h
      refine G_cV0 (pc' := 45) C dX10_inputsOf_42 (tX10_digit κ l o r l1 l6 q2 hq2) (wV tw_ml_X10_173 tw_im_X10_digit tw_se_X10_X10_digit tw_in_X10 tw_co_X10_digit) yd_X10_digit rfl fi_X10 (RB_rd 0 rfl) rfl rfl (by decide) rfl (Nat.le_of_ble_eq_true rfl) rfl rfl ?_
      refine G_iload (pc' := 47) C dX10_inputsOf_45 4 rfl rfl ?_
      refine G_iload (pc' := 49) C dX10_inputsOf_47 6 rfl rfl ?_
      refine G_ishr (pc' := 50) C dX10_inputsOf_49 rfl ?_
      refine G_iconst (pc' := 51) (v := (1 : Int32)) C dX10_inputsOf_50 (by decide) rfl ?_
      refine G_iand (pc' := 52) C dX10_inputsOf_51 rfl ?_
      refine G_icmp_ne (tgt := 59) (pc' := 55) C dX10_inputsOf_52 (by decide) rfl (fun hc => ?_) (fun hc => ?_)
      · replace h := z_in hc h
        refine G_iconst (pc' := 60) (v := (0 : Int32)) C dX10_inputsOf_59 (by decide) rfl ?_
        exact G_sub (lv' := [(0, .ref o), (1, .int l1), (2, .int l2), (3, .int l3), (4, .int l4), (6, .int l6)]) [0, 1, 2, 3, 4, 6] rfl (J60 l6 (0 : Int32) l5 h)
      · replace h := z_ip hc h
        exact G_sub (lv' := [(0, .ref o), (1, .int l1), (2, .int l2), (3, .int l3), (4, .int l4), (6, .int l6)]) [0, 1, 2, 3, 4, 6] rfl (J55 l6 l5 h)
set_option maxHeartbeats 4000000 in
set_option maxRecDepth 100000 in
theorem tX10_inputsOf_L5 {κ : KK} {p : Program} {l : Launch} {e : Env} {s : State} {m : MethodId} {args : Array Value} {below : List Frame} {meth : Method} {c : Code} (C : Cx κ p s m args meth c cX10_inputsOf 7 RX10 (some .int)) {o : Nat} {v : Option Value} {B' : Heap → Prop} {r : RS} {l1 : Int32} {l2 : Int32} {l3 : Int32} {l4 : Int32} {y : (Int32 × Int32) ⊕ Int32} (h : fX10_inputsOf_L5 r l1 l2 l3 l4 = some y) (kc : ∀ u, y = .inl u → GR κ p l e s m args below meth c rmX10_inputsOf 7 o v B' r 5 [(0, .ref o), (1, .int l1), (2, .int l2), (3, .int u.1), (4, .int u.2)] []) (kx : ∀ w, y = .inr w → GR κ p l e s m args below meth c rmX10_inputsOf 7 o v B' r 91 [(3, .int w)] []) : GR κ p l e s m args below meth c rmX10_inputsOf 7 o v B' r 5 [(0, .ref o), (1, .int l1), (2, .int l2), (3, .int l3), (4, .int l4)] [] := by
  have J83 : ∀ (l4 : Int32) (s0 : Int32) (s1 : Int32), fX10_inputsOf_L5_J83 r l1 l2 l4 s0 s1 = some y → GR κ p l e s m args below meth c rmX10_inputsOf 7 o v B' r 83 [(0, .ref o), (1, .int l1), (2, .int l2), (4, .int l4)] [.int s0, .int s1] := by
    intro l4 s0 s1 h
    unfold fX10_inputsOf_L5_J83 at h
    refine G_ior (pc' := 84) C dX10_inputsOf_83 rfl ?_
    refine G_istore_n (pc' := 85) C dX10_inputsOf_84 [(3, .int (s1 ||| s0)), (0, .ref o), (1, .int l1), (2, .int l2), (4, .int l4)] (by decide) rfl rfl ?_
    refine G_iinc (pc' := 88) C dX10_inputsOf_85 4 rfl rfl [(4, .int (l4 + (1 : Int32))), (3, .int (s1 ||| s0)), (0, .ref o), (1, .int l1), (2, .int l2)] (by decide) rfl rfl ?_
    refine G_goto (tgt := 5) C dX10_inputsOf_88 (by decide) ?_
    exact G_sub (lv' := [(0, .ref o), (1, .int l1), (2, .int l2), (3, .int (s1 ||| s0)), (4, .int (l4 + (1 : Int32)))]) [2, 3, 4, 1, 0] rfl (kc ((s1 ||| s0), (l4 + (1 : Int32))) (Option.some.inj h).symm)
  unfold fX10_inputsOf_L5 at h
  refine G_iload (pc' := 7) C dX10_inputsOf_5 4 rfl rfl ?_
  refine G_iconst (pc' := 8) (v := (1 : Int32)) C dX10_inputsOf_7 (by decide) rfl ?_
  refine G_iload_n (pc' := 9) C dX10_inputsOf_8 2 rfl rfl ?_
  refine G_ishl (pc' := 10) C dX10_inputsOf_9 rfl ?_
  refine G_icmp_ge (tgt := 91) (pc' := 13) C dX10_inputsOf_10 (by decide) rfl (fun hc => ?_) (fun hc => ?_)
  · replace h := z_ip hc h
    exact G_sub (lv' := [(3, .int l3)]) [3] rfl (kx _ (Option.some.inj h).symm)
  · replace h := z_in hc h
    refine G_iconst (pc' := 14) (v := (1 : Int32)) C dX10_inputsOf_13 (by decide) rfl ?_
    refine G_istore (pc' := 16) C dX10_inputsOf_14 [(5, .int (1 : Int32)), (0, .ref o), (1, .int l1), (2, .int l2), (3, .int l3), (4, .int l4)] (by decide) rfl rfl ?_
    refine G_iconst (pc' := 17) (v := (0 : Int32)) C dX10_inputsOf_16 (by decide) rfl ?_
    refine G_istore (pc' := 19) C dX10_inputsOf_17 [(6, .int (0 : Int32)), (5, .int (1 : Int32)), (0, .ref o), (1, .int l1), (2, .int l2), (3, .int l3), (4, .int l4)] (by decide) rfl rfl ?_
    obtain ⟨e3, hle3, h⟩ := ob h
    refine G_sub (lv' := [(0, .ref o), (1, .int l1), (2, .int l2), (3, .int l3), (4, .int l4), (5, .int (1 : Int32)), (6, .int (0 : Int32))]) [2, 3, 4, 5, 6, 1, 0] rfl ?_
    refine lpN_ind (body := fun u => fX10_inputsOf_L19 r l1 l2 l3 l4 u.1 u.2) (P := fun u => GR κ p l e s m args below meth c rmX10_inputsOf 7 o v B' r 19 [(0, .ref o), (1, .int l1), (2, .int l2), (3, .int l3), (4, .int l4), (5, .int u.1), (6, .int u.2)] []) (X := fun w => GR κ p l e s m args below meth c rmX10_inputsOf 7 o v B' r 69 [(0, .ref o), (1, .int l1), (2, .int l2), (3, .int l3), (4, .int l4), (5, .int w)] []) (fun u y hb kc kx => tX10_inputsOf_L19 C hb kc kx) _ _ _ hle3 ?_
    refine G_iload_n (pc' := 70) C dX10_inputsOf_69 3 rfl rfl ?_
    refine G_iload (pc' := 72) C dX10_inputsOf_70 5 rfl rfl ?_
    refine G_if_eq (tgt := 82) (pc' := 75) C dX10_inputsOf_72 (by decide) rfl (fun hc => ?_) (fun hc => ?_)
    · replace h := z_ip hc h
      refine G_iconst (pc' := 83) (v := (0 : Int32)) C dX10_inputsOf_82 (by decide) rfl ?_
      exact G_sub (lv' := [(0, .ref o), (1, .int l1), (2, .int l2), (4, .int l4)]) [0, 1, 2, 4] rfl (J83 l4 (0 : Int32) l3 h)
    · replace h := z_in hc h
      refine G_iconst (pc' := 76) (v := (1 : Int32)) C dX10_inputsOf_75 (by decide) rfl ?_
      refine G_iload (pc' := 78) C dX10_inputsOf_76 4 rfl rfl ?_
      refine G_ishl (pc' := 79) C dX10_inputsOf_78 rfl ?_
      refine G_goto (tgt := 83) C dX10_inputsOf_79 (by decide) ?_
      exact G_sub (lv' := [(0, .ref o), (1, .int l1), (2, .int l2), (4, .int l4)]) [0, 1, 2, 4] rfl (J83 l4 ((1 : Int32) <<< (l4 &&& 31)) l3 h)
set_option maxHeartbeats 4000000 in
set_option maxRecDepth 100000 in
theorem tX10_inputsOf (κ : KK) (l : Launch) (o : Nat) (r : RS) (a1 : Int32) (a2 : Int32) (q : Int32) (h : fX10_inputsOf r a1 a2 = some q) : MM κ l yX10_inputsOf cX10_inputsOf 7 (some .int) rmX10_inputsOf (RA o) [.ref o, .int a1, .int a2] (RB κ o r) (some (Value.int q)) (RB κ o r) := by
  refine MM.of (by decide +kernel) (Nat.le_of_ble_eq_true rfl) ?_
  intro p e s m below meth c C hnm
  unfold fX10_inputsOf at h
  refine G_sub (lv' := [(0, .ref o), (1, .int a1), (2, .int a2)]) [0, 1, 2] rfl ?_
  refine G_iconst (pc' := 1) (v := (0 : Int32)) C dX10_inputsOf_0 (by decide) rfl ?_
  refine G_istore_n (pc' := 2) C dX10_inputsOf_1 [(3, .int (0 : Int32)), (0, .ref o), (1, .int a1), (2, .int a2)] (by decide) rfl rfl ?_
  refine G_iconst (pc' := 3) (v := (0 : Int32)) C dX10_inputsOf_2 (by decide) rfl ?_
  refine G_istore (pc' := 5) C dX10_inputsOf_3 [(4, .int (0 : Int32)), (3, .int (0 : Int32)), (0, .ref o), (1, .int a1), (2, .int a2)] (by decide) rfl rfl ?_
  obtain ⟨e4, hle4, h⟩ := ob h
  refine G_sub (lv' := [(0, .ref o), (1, .int a1), (2, .int a2), (3, .int (0 : Int32)), (4, .int (0 : Int32))]) [2, 3, 4, 1, 0] rfl ?_
  refine lpN_ind (body := fun u => fX10_inputsOf_L5 r a1 a2 u.1 u.2) (P := fun u => GR κ p l e s m ([.ref o, .int a1, .int a2] : List Value).toArray below meth c rmX10_inputsOf 7 o (some (Value.int q)) (RB κ o r) r 5 [(0, .ref o), (1, .int a1), (2, .int a2), (3, .int u.1), (4, .int u.2)] []) (X := fun w => GR κ p l e s m ([.ref o, .int a1, .int a2] : List Value).toArray below meth c rmX10_inputsOf 7 o (some (Value.int q)) (RB κ o r) r 91 [(3, .int w)] []) (fun u y hb kc kx => tX10_inputsOf_L5 C hb kc kx) _ _ _ hle4 ?_
  refine G_iload_n (pc' := 92) C dX10_inputsOf_91 0 rfl rfl ?_
  obtain rfl := Option.some.inj h
  exact G_iret C dX10_inputsOf_92 (fun _ h => h)
theorem dX10_isNext_0 : decode cX10_isNext 0 = .ok (.iload_n 2, 1) := by decide +kernel
theorem dX10_isNext_1 : decode cX10_isNext 1 = .ok (.iload_n 3, 1) := by decide +kernel
theorem dX10_isNext_2 : decode cX10_isNext 2 = .ok (.iconst (-1), 1) := by decide +kernel
theorem dX10_isNext_3 : decode cX10_isNext 3 = .ok (.ixor, 1) := by decide +kernel
theorem dX10_isNext_4 : decode cX10_isNext 4 = .ok (.iand, 1) := by decide +kernel
theorem dX10_isNext_5 : decode cX10_isNext 5 = .ok (.istore 4, 2) := by decide +kernel
theorem dX10_isNext_7 : decode cX10_isNext 7 = .ok (.aload_n 0, 1) := by decide +kernel
theorem dX10_isNext_8 : decode cX10_isNext 8 = .ok (.getfield 54, 3) := by decide +kernel
theorem dX10_isNext_11 : decode cX10_isNext 11 = .ok (.iload_n 1, 1) := by decide +kernel
theorem dX10_isNext_12 : decode cX10_isNext 12 = .ok (.iaload, 1) := by decide +kernel
theorem dX10_isNext_13 : decode cX10_isNext 13 = .ok (.iconst 1, 1) := by decide +kernel
theorem dX10_isNext_14 : decode cX10_isNext 14 = .ok (.iand, 1) := by decide +kernel
theorem dX10_isNext_15 : decode cX10_isNext 15 = .ok (.ifCond .ne 23, 3) := by decide +kernel
theorem dX10_isNext_18 : decode cX10_isNext 18 = .ok (.aload_n 0, 1) := by decide +kernel
theorem dX10_isNext_19 : decode cX10_isNext 19 = .ok (.getfield 100, 3) := by decide +kernel
theorem dX10_isNext_22 : decode cX10_isNext 22 = .ok (.iload_n 1, 1) := by decide +kernel
theorem dX10_isNext_23 : decode cX10_isNext 23 = .ok (.iaload, 1) := by decide +kernel
theorem dX10_isNext_24 : decode cX10_isNext 24 = .ok (.iload 4, 2) := by decide +kernel
theorem dX10_isNext_26 : decode cX10_isNext 26 = .ok (.iload 4, 2) := by decide +kernel
theorem dX10_isNext_28 : decode cX10_isNext 28 = .ok (.ineg, 1) := by decide +kernel
theorem dX10_isNext_29 : decode cX10_isNext 29 = .ok (.iand, 1) := by decide +kernel
theorem dX10_isNext_30 : decode cX10_isNext 30 = .ok (.iand, 1) := by decide +kernel
theorem dX10_isNext_31 : decode cX10_isNext 31 = .ok (.ifCond .eq 7, 3) := by decide +kernel
theorem dX10_isNext_34 : decode cX10_isNext 34 = .ok (.iconst 1, 1) := by decide +kernel
theorem dX10_isNext_35 : decode cX10_isNext 35 = .ok (.goto 4, 3) := by decide +kernel
theorem dX10_isNext_38 : decode cX10_isNext 38 = .ok (.iconst 0, 1) := by decide +kernel
theorem dX10_isNext_39 : decode cX10_isNext 39 = .ok (.ireturn, 1) := by decide +kernel
abbrev rmX10_isNext : Room := { frames := 0, cells := 0, slots := 0, locals := 0 }
theorem yd_X10_isNext : yX10_isNext.cls = RX10 ∧ yX10_isNext.cls ≠ "java/lang/invoke/MethodHandle" ∧ yX10_isNext.cls ≠ "java/lang/invoke/VarHandle" ∧ (parseMethodDescriptor yX10_isNext.desc).map (fun d => d.parameters.length) = some 3 := by decide +kernel
def fX10_isNext_J38 (r : RS) : Option (Int32) :=
  some (0 : Int32)
def fX10_isNext (r : RS) (a1 : Int32) (a2 : Int32) (a3 : Int32) : Option (Int32) :=
  (aI 6561 (r.2.1 12) a1).bind fun v1 =>
  if (v1 &&& (1 : Int32)) = 0 then
    (aI 81 (r.2.1 27) a1).bind fun v2 =>
    if (v2 &&& ((a2 &&& (a3 ^^^ (-1 : Int32))) &&& (-(a2 &&& (a3 ^^^ (-1 : Int32)))))) = 0 then
      fX10_isNext_J38 r
    else
      some (1 : Int32)
  else
    fX10_isNext_J38 r
set_option maxHeartbeats 4000000 in
set_option maxRecDepth 100000 in
theorem tX10_isNext (κ : KK) (l : Launch) (o : Nat) (r : RS) (a1 : Int32) (a2 : Int32) (a3 : Int32) (q : Int32) (h : fX10_isNext r a1 a2 a3 = some q) : MM κ l yX10_isNext cX10_isNext 5 (some .boolean) rmX10_isNext (RA o) [.ref o, .int a1, .int a2, .int a3] (RB κ o r) (some (Value.int q)) (RB κ o r) := by
  refine MM.of (by decide +kernel) (Nat.le_of_ble_eq_true rfl) ?_
  intro p e s m below meth c C hnm
  have J38 : fX10_isNext_J38 r = some q → GR κ p l e s m ([.ref o, .int a1, .int a2, .int a3] : List Value).toArray below meth c rmX10_isNext 5 o (some (Value.int q)) (RB κ o r) r 38 [] [] := by
    intro  h
    unfold fX10_isNext_J38 at h
    refine G_iconst (pc' := 39) (v := (0 : Int32)) C dX10_isNext_38 (by decide) rfl ?_
    obtain rfl := Option.some.inj h
    exact G_zret (v := (0 : Int32)) C rfl dX10_isNext_39 (fun _ h => h)
  unfold fX10_isNext at h
  refine G_sub (lv' := [(0, .ref o), (1, .int a1), (2, .int a2), (3, .int a3)]) [0, 1, 2, 3] rfl ?_
  refine G_iload_n (pc' := 1) C dX10_isNext_0 2 rfl rfl ?_
  refine G_iload_n (pc' := 2) C dX10_isNext_1 3 rfl rfl ?_
  refine G_iconst (pc' := 3) (v := (-1 : Int32)) C dX10_isNext_2 (by decide) rfl ?_
  refine G_ixor (pc' := 4) C dX10_isNext_3 rfl ?_
  refine G_iand (pc' := 5) C dX10_isNext_4 rfl ?_
  refine G_istore (pc' := 7) C dX10_isNext_5 [(4, .int (a2 &&& (a3 ^^^ (-1 : Int32)))), (0, .ref o), (1, .int a1), (2, .int a2), (3, .int a3)] (by decide) rfl rfl ?_
  refine G_aload_n (pc' := 8) C dX10_isNext_7 1 rfl rfl ?_
  refine R_g_has (pc' := 11) C dX10_isNext_8 rfl ?_
  refine G_iload_n (pc' := 12) C dX10_isNext_11 2 rfl rfl ?_
  obtain ⟨v1, hv1, h⟩ := ob h
  refine R_l_has (pc' := 13) C dX10_isNext_12 hv1 rfl ?_
  refine G_iconst (pc' := 14) (v := (1 : Int32)) C dX10_isNext_13 (by decide) rfl ?_
  refine G_iand (pc' := 15) C dX10_isNext_14 rfl ?_
  refine G_if_ne (tgt := 38) (pc' := 18) C dX10_isNext_15 (by decide) rfl (fun hc => ?_) (fun hc => ?_)
  · replace h := z_in hc h
    exact G_sub (lv' := []) [] rfl (J38  h)
  · replace h := z_ip hc h
    refine G_aload_n (pc' := 19) C dX10_isNext_18 1 rfl rfl ?_
    refine R_g_inputSet (pc' := 22) C dX10_isNext_19 rfl ?_
    refine G_iload_n (pc' := 23) C dX10_isNext_22 2 rfl rfl ?_
    obtain ⟨v2, hv2, h⟩ := ob h
    refine R_l_inputSet (pc' := 24) C dX10_isNext_23 hv2 rfl ?_
    refine G_iload (pc' := 26) C dX10_isNext_24 0 rfl rfl ?_
    refine G_iload (pc' := 28) C dX10_isNext_26 0 rfl rfl ?_
    refine G_ineg (pc' := 29) C dX10_isNext_28 rfl ?_
    refine G_iand (pc' := 30) C dX10_isNext_29 rfl ?_
    refine G_iand (pc' := 31) C dX10_isNext_30 rfl ?_
    refine G_if_eq (tgt := 38) (pc' := 34) C dX10_isNext_31 (by decide) rfl (fun hc => ?_) (fun hc => ?_)
    · replace h := z_ip hc h
      exact G_sub (lv' := []) [] rfl (J38  h)
    · replace h := z_in hc h
      refine G_iconst (pc' := 35) (v := (1 : Int32)) C dX10_isNext_34 (by decide) rfl ?_
      refine G_goto (tgt := 39) C dX10_isNext_35 (by decide) ?_
      obtain rfl := Option.some.inj h
      exact G_zret (v := (1 : Int32)) C rfl dX10_isNext_39 (fun _ h => h)
theorem dX10_form_0 : decode cX10_form 0 = .ok (.aload_n 0, 1) := by decide +kernel
theorem dX10_form_1 : decode cX10_form 1 = .ok (.iload_n 1, 1) := by decide +kernel
theorem dX10_form_2 : decode cX10_form 2 = .ok (.invokevirtual 127, 3) := by decide +kernel
theorem dX10_form_5 : decode cX10_form 5 = .ok (.istore_n 2, 1) := by decide +kernel
theorem dX10_form_6 : decode cX10_form 6 = .ok (.iload_n 2, 1) := by decide +kernel
theorem dX10_form_7 : decode cX10_form 7 = .ok (.ifCond .eq 9, 3) := by decide +kernel
theorem dX10_form_10 : decode cX10_form 10 = .ok (.aload_n 0, 1) := by decide +kernel
theorem dX10_form_11 : decode cX10_form 11 = .ok (.iload_n 2, 1) := by decide +kernel
theorem dX10_form_12 : decode cX10_form 12 = .ok (.invokevirtual 136, 3) := by decide +kernel
theorem dX10_form_15 : decode cX10_form 15 = .ok (.ireturn, 1) := by decide +kernel
theorem dX10_form_16 : decode cX10_form 16 = .ok (.aload_n 0, 1) := by decide +kernel
theorem dX10_form_17 : decode cX10_form 17 = .ok (.getfield 7, 3) := by decide +kernel
theorem dX10_form_20 : decode cX10_form 20 = .ok (.iload_n 1, 1) := by decide +kernel
theorem dX10_form_21 : decode cX10_form 21 = .ok (.iaload, 1) := by decide +kernel
theorem dX10_form_22 : decode cX10_form 22 = .ok (.istore_n 3, 1) := by decide +kernel
theorem dX10_form_23 : decode cX10_form 23 = .ok (.iload_n 3, 1) := by decide +kernel
theorem dX10_form_24 : decode cX10_form 24 = .ok (.iconst 4, 1) := by decide +kernel
theorem dX10_form_25 : decode cX10_form 25 = .ok (.if_icmp .le 6, 3) := by decide +kernel
theorem dX10_form_28 : decode cX10_form 28 = .ok (.bipush (-5), 2) := by decide +kernel
theorem dX10_form_30 : decode cX10_form 30 = .ok (.ireturn, 1) := by decide +kernel
theorem dX10_form_31 : decode cX10_form 31 = .ok (.aload_n 0, 1) := by decide +kernel
theorem dX10_form_32 : decode cX10_form 32 = .ok (.iload_n 1, 1) := by decide +kernel
theorem dX10_form_33 : decode cX10_form 33 = .ok (.invokevirtual 186, 3) := by decide +kernel
theorem dX10_form_36 : decode cX10_form 36 = .ok (.iconst 0, 1) := by decide +kernel
theorem dX10_form_37 : decode cX10_form 37 = .ok (.istore 4, 2) := by decide +kernel
theorem dX10_form_39 : decode cX10_form 39 = .ok (.iconst 0, 1) := by decide +kernel
theorem dX10_form_40 : decode cX10_form 40 = .ok (.istore 5, 2) := by decide +kernel
theorem dX10_form_42 : decode cX10_form 42 = .ok (.iload 5, 2) := by decide +kernel
theorem dX10_form_44 : decode cX10_form 44 = .ok (.aload_n 0, 1) := by decide +kernel
theorem dX10_form_45 : decode cX10_form 45 = .ok (.iload_n 1, 1) := by decide +kernel
theorem dX10_form_46 : decode cX10_form 46 = .ok (.invokevirtual 119, 3) := by decide +kernel
theorem dX10_form_49 : decode cX10_form 49 = .ok (.if_icmp .ge 33, 3) := by decide +kernel
theorem dX10_form_52 : decode cX10_form 52 = .ok (.iload 4, 2) := by decide +kernel
theorem dX10_form_54 : decode cX10_form 54 = .ok (.aload_n 0, 1) := by decide +kernel
theorem dX10_form_55 : decode cX10_form 55 = .ok (.iload_n 1, 1) := by decide +kernel
theorem dX10_form_56 : decode cX10_form 56 = .ok (.iload 5, 2) := by decide +kernel
theorem dX10_form_58 : decode cX10_form 58 = .ok (.invokevirtual 123, 3) := by decide +kernel
theorem dX10_form_61 : decode cX10_form 61 = .ok (.iconst 1, 1) := by decide +kernel
theorem dX10_form_62 : decode cX10_form 62 = .ok (.if_icmp .ne 10, 3) := by decide +kernel
theorem dX10_form_65 : decode cX10_form 65 = .ok (.iconst 1, 1) := by decide +kernel
theorem dX10_form_66 : decode cX10_form 66 = .ok (.iload 5, 2) := by decide +kernel
theorem dX10_form_68 : decode cX10_form 68 = .ok (.ishl, 1) := by decide +kernel
theorem dX10_form_69 : decode cX10_form 69 = .ok (.goto 4, 3) := by decide +kernel
theorem dX10_form_72 : decode cX10_form 72 = .ok (.iconst 0, 1) := by decide +kernel
theorem dX10_form_73 : decode cX10_form 73 = .ok (.ior, 1) := by decide +kernel
theorem dX10_form_74 : decode cX10_form 74 = .ok (.istore 4, 2) := by decide +kernel
theorem dX10_form_76 : decode cX10_form 76 = .ok (.iinc 5 1, 3) := by decide +kernel
theorem dX10_form_79 : decode cX10_form 79 = .ok (.goto (-37), 3) := by decide +kernel
theorem dX10_form_82 : decode cX10_form 82 = .ok (.iconst 0, 1) := by decide +kernel
theorem dX10_form_83 : decode cX10_form 83 = .ok (.istore 5, 2) := by decide +kernel
theorem dX10_form_85 : decode cX10_form 85 = .ok (.iload 5, 2) := by decide +kernel
theorem dX10_form_87 : decode cX10_form 87 = .ok (.aload_n 0, 1) := by decide +kernel
theorem dX10_form_88 : decode cX10_form 88 = .ok (.getfield 51, 3) := by decide +kernel
theorem dX10_form_91 : decode cX10_form 91 = .ok (.iload_n 3, 1) := by decide +kernel
theorem dX10_form_92 : decode cX10_form 92 = .ok (.iaload, 1) := by decide +kernel
theorem dX10_form_93 : decode cX10_form 93 = .ok (.if_icmp .ge 23, 3) := by decide +kernel
theorem dX10_form_96 : decode cX10_form 96 = .ok (.aload_n 0, 1) := by decide +kernel
theorem dX10_form_97 : decode cX10_form 97 = .ok (.getfield 100, 3) := by decide +kernel
theorem dX10_form_100 : decode cX10_form 100 = .ok (.iload 5, 2) := by decide +kernel
theorem dX10_form_102 : decode cX10_form 102 = .ok (.aload_n 0, 1) := by decide +kernel
theorem dX10_form_103 : decode cX10_form 103 = .ok (.iload 5, 2) := by decide +kernel
theorem dX10_form_105 : decode cX10_form 105 = .ok (.iload_n 3, 1) := by decide +kernel
theorem dX10_form_106 : decode cX10_form 106 = .ok (.invokevirtual 231, 3) := by decide +kernel
theorem dX10_form_109 : decode cX10_form 109 = .ok (.iastore, 1) := by decide +kernel
theorem dX10_form_110 : decode cX10_form 110 = .ok (.iinc 5 1, 3) := by decide +kernel
theorem dX10_form_113 : decode cX10_form 113 = .ok (.goto (-28), 3) := by decide +kernel
theorem dX10_form_116 : decode cX10_form 116 = .ok (.iload 4, 2) := by decide +kernel
theorem dX10_form_118 : decode cX10_form 118 = .ok (.istore 5, 2) := by decide +kernel
theorem dX10_form_120 : decode cX10_form 120 = .ok (.iload 5, 2) := by decide +kernel
theorem dX10_form_122 : decode cX10_form 122 = .ok (.ifCond .lt 136, 3) := by decide +kernel
theorem dX10_form_125 : decode cX10_form 125 = .ok (.iload 5, 2) := by decide +kernel
theorem dX10_form_127 : decode cX10_form 127 = .ok (.iload 4, 2) := by decide +kernel
theorem dX10_form_129 : decode cX10_form 129 = .ok (.iconst (-1), 1) := by decide +kernel
theorem dX10_form_130 : decode cX10_form 130 = .ok (.ixor, 1) := by decide +kernel
theorem dX10_form_131 : decode cX10_form 131 = .ok (.iand, 1) := by decide +kernel
theorem dX10_form_132 : decode cX10_form 132 = .ok (.ifCond .ne 120, 3) := by decide +kernel
theorem dX10_form_135 : decode cX10_form 135 = .ok (.aload_n 0, 1) := by decide +kernel
theorem dX10_form_136 : decode cX10_form 136 = .ok (.getfield 94, 3) := by decide +kernel
theorem dX10_form_139 : decode cX10_form 139 = .ok (.iload 5, 2) := by decide +kernel
theorem dX10_form_141 : decode cX10_form 141 = .ok (.iload 5, 2) := by decide +kernel
theorem dX10_form_143 : decode cX10_form 143 = .ok (.iload 4, 2) := by decide +kernel
theorem dX10_form_145 : decode cX10_form 145 = .ok (.if_icmp .ne 7, 3) := by decide +kernel
theorem dX10_form_148 : decode cX10_form 148 = .ok (.iconst 0, 1) := by decide +kernel
theorem dX10_form_149 : decode cX10_form 149 = .ok (.goto 5, 3) := by decide +kernel
theorem dX10_form_152 : decode cX10_form 152 = .ok (.bipush 100, 2) := by decide +kernel
theorem dX10_form_154 : decode cX10_form 154 = .ok (.iastore, 1) := by decide +kernel
theorem dX10_form_155 : decode cX10_form 155 = .ok (.iconst 0, 1) := by decide +kernel
theorem dX10_form_156 : decode cX10_form 156 = .ok (.istore 6, 2) := by decide +kernel
theorem dX10_form_158 : decode cX10_form 158 = .ok (.iload 6, 2) := by decide +kernel
theorem dX10_form_160 : decode cX10_form 160 = .ok (.aload_n 0, 1) := by decide +kernel
theorem dX10_form_161 : decode cX10_form 161 = .ok (.getfield 51, 3) := by decide +kernel
theorem dX10_form_164 : decode cX10_form 164 = .ok (.iload_n 3, 1) := by decide +kernel
theorem dX10_form_165 : decode cX10_form 165 = .ok (.iaload, 1) := by decide +kernel
theorem dX10_form_166 : decode cX10_form 166 = .ok (.if_icmp .ge 86, 3) := by decide +kernel
theorem dX10_form_169 : decode cX10_form 169 = .ok (.iload 5, 2) := by decide +kernel
theorem dX10_form_171 : decode cX10_form 171 = .ok (.iload 4, 2) := by decide +kernel
theorem dX10_form_173 : decode cX10_form 173 = .ok (.if_icmp .eq 79, 3) := by decide +kernel
theorem dX10_form_176 : decode cX10_form 176 = .ok (.aload_n 0, 1) := by decide +kernel
theorem dX10_form_177 : decode cX10_form 177 = .ok (.iload 6, 2) := by decide +kernel
theorem dX10_form_179 : decode cX10_form 179 = .ok (.iload 4, 2) := by decide +kernel
theorem dX10_form_181 : decode cX10_form 181 = .ok (.iload 5, 2) := by decide +kernel
theorem dX10_form_183 : decode cX10_form 183 = .ok (.invokevirtual 234, 3) := by decide +kernel
theorem dX10_form_186 : decode cX10_form 186 = .ok (.ifCond .eq 60, 3) := by decide +kernel
theorem dX10_form_189 : decode cX10_form 189 = .ok (.iconst 1, 1) := by decide +kernel
theorem dX10_form_190 : decode cX10_form 190 = .ok (.aload_n 0, 1) := by decide +kernel
theorem dX10_form_191 : decode cX10_form 191 = .ok (.getfield 94, 3) := by decide +kernel
theorem dX10_form_194 : decode cX10_form 194 = .ok (.iload 5, 2) := by decide +kernel
theorem dX10_form_196 : decode cX10_form 196 = .ok (.aload_n 0, 1) := by decide +kernel
theorem dX10_form_197 : decode cX10_form 197 = .ok (.getfield 100, 3) := by decide +kernel
theorem dX10_form_200 : decode cX10_form 200 = .ok (.iload 6, 2) := by decide +kernel
theorem dX10_form_202 : decode cX10_form 202 = .ok (.iaload, 1) := by decide +kernel
theorem dX10_form_203 : decode cX10_form 203 = .ok (.iload 4, 2) := by decide +kernel
theorem dX10_form_205 : decode cX10_form 205 = .ok (.iand, 1) := by decide +kernel
theorem dX10_form_206 : decode cX10_form 206 = .ok (.ior, 1) := by decide +kernel
theorem dX10_form_207 : decode cX10_form 207 = .ok (.iaload, 1) := by decide +kernel
theorem dX10_form_208 : decode cX10_form 208 = .ok (.iadd, 1) := by decide +kernel
theorem dX10_form_209 : decode cX10_form 209 = .ok (.aload_n 0, 1) := by decide +kernel
theorem dX10_form_210 : decode cX10_form 210 = .ok (.getfield 94, 3) := by decide +kernel
theorem dX10_form_213 : decode cX10_form 213 = .ok (.iload 5, 2) := by decide +kernel
theorem dX10_form_215 : decode cX10_form 215 = .ok (.iaload, 1) := by decide +kernel
theorem dX10_form_216 : decode cX10_form 216 = .ok (.if_icmp .ge 30, 3) := by decide +kernel
theorem dX10_form_219 : decode cX10_form 219 = .ok (.aload_n 0, 1) := by decide +kernel
theorem dX10_form_220 : decode cX10_form 220 = .ok (.getfield 94, 3) := by decide +kernel
theorem dX10_form_223 : decode cX10_form 223 = .ok (.iload 5, 2) := by decide +kernel
theorem dX10_form_225 : decode cX10_form 225 = .ok (.iconst 1, 1) := by decide +kernel
theorem dX10_form_226 : decode cX10_form 226 = .ok (.aload_n 0, 1) := by decide +kernel
theorem dX10_form_227 : decode cX10_form 227 = .ok (.getfield 94, 3) := by decide +kernel
theorem dX10_form_230 : decode cX10_form 230 = .ok (.iload 5, 2) := by decide +kernel
theorem dX10_form_232 : decode cX10_form 232 = .ok (.aload_n 0, 1) := by decide +kernel
theorem dX10_form_233 : decode cX10_form 233 = .ok (.getfield 100, 3) := by decide +kernel
theorem dX10_form_236 : decode cX10_form 236 = .ok (.iload 6, 2) := by decide +kernel
theorem dX10_form_238 : decode cX10_form 238 = .ok (.iaload, 1) := by decide +kernel
theorem dX10_form_239 : decode cX10_form 239 = .ok (.iload 4, 2) := by decide +kernel
theorem dX10_form_241 : decode cX10_form 241 = .ok (.iand, 1) := by decide +kernel
theorem dX10_form_242 : decode cX10_form 242 = .ok (.ior, 1) := by decide +kernel
theorem dX10_form_243 : decode cX10_form 243 = .ok (.iaload, 1) := by decide +kernel
theorem dX10_form_244 : decode cX10_form 244 = .ok (.iadd, 1) := by decide +kernel
theorem dX10_form_245 : decode cX10_form 245 = .ok (.iastore, 1) := by decide +kernel
theorem dX10_form_246 : decode cX10_form 246 = .ok (.iinc 6 1, 3) := by decide +kernel
theorem dX10_form_249 : decode cX10_form 249 = .ok (.goto (-91), 3) := by decide +kernel
theorem dX10_form_252 : decode cX10_form 252 = .ok (.iinc 5 (-1), 3) := by decide +kernel
theorem dX10_form_255 : decode cX10_form 255 = .ok (.goto (-135), 3) := by decide +kernel
theorem dX10_form_258 : decode cX10_form 258 = .ok (.aload_n 0, 1) := by decide +kernel
theorem dX10_form_259 : decode cX10_form 259 = .ok (.iconst 0, 1) := by decide +kernel
theorem dX10_form_260 : decode cX10_form 260 = .ok (.putfield 237, 3) := by decide +kernel
theorem dX10_form_263 : decode cX10_form 263 = .ok (.iconst 0, 1) := by decide +kernel
theorem dX10_form_264 : decode cX10_form 264 = .ok (.istore 5, 2) := by decide +kernel
theorem dX10_form_266 : decode cX10_form 266 = .ok (.iload 5, 2) := by decide +kernel
theorem dX10_form_268 : decode cX10_form 268 = .ok (.iload 4, 2) := by decide +kernel
theorem dX10_form_270 : decode cX10_form 270 = .ok (.if_icmp .eq 94, 3) := by decide +kernel
theorem dX10_form_273 : decode cX10_form 273 = .ok (.iconst 0, 1) := by decide +kernel
theorem dX10_form_274 : decode cX10_form 274 = .ok (.istore 6, 2) := by decide +kernel
theorem dX10_form_276 : decode cX10_form 276 = .ok (.aload_n 0, 1) := by decide +kernel
theorem dX10_form_277 : decode cX10_form 277 = .ok (.iload 6, 2) := by decide +kernel
theorem dX10_form_279 : decode cX10_form 279 = .ok (.iload 4, 2) := by decide +kernel
theorem dX10_form_281 : decode cX10_form 281 = .ok (.iload 5, 2) := by decide +kernel
theorem dX10_form_283 : decode cX10_form 283 = .ok (.invokevirtual 234, 3) := by decide +kernel
theorem dX10_form_286 : decode cX10_form 286 = .ok (.ifCond .eq 33, 3) := by decide +kernel
theorem dX10_form_289 : decode cX10_form 289 = .ok (.iconst 1, 1) := by decide +kernel
theorem dX10_form_290 : decode cX10_form 290 = .ok (.aload_n 0, 1) := by decide +kernel
theorem dX10_form_291 : decode cX10_form 291 = .ok (.getfield 94, 3) := by decide +kernel
theorem dX10_form_294 : decode cX10_form 294 = .ok (.iload 5, 2) := by decide +kernel
theorem dX10_form_296 : decode cX10_form 296 = .ok (.aload_n 0, 1) := by decide +kernel
theorem dX10_form_297 : decode cX10_form 297 = .ok (.getfield 100, 3) := by decide +kernel
theorem dX10_form_300 : decode cX10_form 300 = .ok (.iload 6, 2) := by decide +kernel
theorem dX10_form_302 : decode cX10_form 302 = .ok (.iaload, 1) := by decide +kernel
theorem dX10_form_303 : decode cX10_form 303 = .ok (.iload 4, 2) := by decide +kernel
theorem dX10_form_305 : decode cX10_form 305 = .ok (.iand, 1) := by decide +kernel
theorem dX10_form_306 : decode cX10_form 306 = .ok (.ior, 1) := by decide +kernel
theorem dX10_form_307 : decode cX10_form 307 = .ok (.iaload, 1) := by decide +kernel
theorem dX10_form_308 : decode cX10_form 308 = .ok (.iadd, 1) := by decide +kernel
theorem dX10_form_309 : decode cX10_form 309 = .ok (.aload_n 0, 1) := by decide +kernel
theorem dX10_form_310 : decode cX10_form 310 = .ok (.getfield 94, 3) := by decide +kernel
theorem dX10_form_313 : decode cX10_form 313 = .ok (.iload 5, 2) := by decide +kernel
theorem dX10_form_315 : decode cX10_form 315 = .ok (.iaload, 1) := by decide +kernel
theorem dX10_form_316 : decode cX10_form 316 = .ok (.if_icmp .eq 9, 3) := by decide +kernel
theorem dX10_form_319 : decode cX10_form 319 = .ok (.iinc 6 1, 3) := by decide +kernel
theorem dX10_form_322 : decode cX10_form 322 = .ok (.goto (-46), 3) := by decide +kernel
theorem dX10_form_325 : decode cX10_form 325 = .ok (.aload_n 0, 1) := by decide +kernel
theorem dX10_form_326 : decode cX10_form 326 = .ok (.getfield 97, 3) := by decide +kernel
theorem dX10_form_329 : decode cX10_form 329 = .ok (.aload_n 0, 1) := by decide +kernel
theorem dX10_form_330 : decode cX10_form 330 = .ok (.getfield 237, 3) := by decide +kernel
theorem dX10_form_333 : decode cX10_form 333 = .ok (.iload 6, 2) := by decide +kernel
theorem dX10_form_335 : decode cX10_form 335 = .ok (.iastore, 1) := by decide +kernel
theorem dX10_form_336 : decode cX10_form 336 = .ok (.aload_n 0, 1) := by decide +kernel
theorem dX10_form_337 : decode cX10_form 337 = .ok (.dup, 1) := by decide +kernel
theorem dX10_form_338 : decode cX10_form 338 = .ok (.getfield 237, 3) := by decide +kernel
theorem dX10_form_341 : decode cX10_form 341 = .ok (.iconst 1, 1) := by decide +kernel
theorem dX10_form_342 : decode cX10_form 342 = .ok (.iadd, 1) := by decide +kernel
theorem dX10_form_343 : decode cX10_form 343 = .ok (.putfield 237, 3) := by decide +kernel
theorem dX10_form_346 : decode cX10_form 346 = .ok (.iload 5, 2) := by decide +kernel
theorem dX10_form_348 : decode cX10_form 348 = .ok (.aload_n 0, 1) := by decide +kernel
theorem dX10_form_349 : decode cX10_form 349 = .ok (.getfield 100, 3) := by decide +kernel
theorem dX10_form_352 : decode cX10_form 352 = .ok (.iload 6, 2) := by decide +kernel
theorem dX10_form_354 : decode cX10_form 354 = .ok (.iaload, 1) := by decide +kernel
theorem dX10_form_355 : decode cX10_form 355 = .ok (.iload 4, 2) := by decide +kernel
theorem dX10_form_357 : decode cX10_form 357 = .ok (.iand, 1) := by decide +kernel
theorem dX10_form_358 : decode cX10_form 358 = .ok (.ior, 1) := by decide +kernel
theorem dX10_form_359 : decode cX10_form 359 = .ok (.istore 5, 2) := by decide +kernel
theorem dX10_form_361 : decode cX10_form 361 = .ok (.goto (-95), 3) := by decide +kernel
theorem dX10_form_364 : decode cX10_form 364 = .ok (.aload_n 0, 1) := by decide +kernel
theorem dX10_form_365 : decode cX10_form 365 = .ok (.getfield 237, 3) := by decide +kernel
theorem dX10_form_368 : decode cX10_form 368 = .ok (.ireturn, 1) := by decide +kernel
abbrev rmX10_form : Room := { frames := 2, cells := 0, slots := 0, locals := 51 }
theorem yd_X10_form : yX10_form.cls = RX10 ∧ yX10_form.cls ≠ "java/lang/invoke/MethodHandle" ∧ yX10_form.cls ≠ "java/lang/invoke/VarHandle" ∧ (parseMethodDescriptor yX10_form.desc).map (fun d => d.parameters.length) = some 1 := by decide +kernel
def fX10_form_L42_J73 (r : RS) (l1 : Int32) (l3 : Int32) (l5 : Int32) (s0 : Int32) (s1 : Int32) : Option ((Int32 × Int32) ⊕ Int32) :=
  some (.inl ((s1 ||| s0), (l5 + (1 : Int32))))
def fX10_form_L42 (r : RS) (l1 : Int32) (l3 : Int32) (l4 : Int32) (l5 : Int32) : Option ((Int32 × Int32) ⊕ Int32) :=
  (fX10_inputs r l1).bind fun q4 =>
  if q4 ≤ l5 then
    some (.inr l4)
  else
    (fX10_say0 r l1 l5).bind fun q5 =>
    if q5 = (1 : Int32) then
      fX10_form_L42_J73 r l1 l3 l5 ((1 : Int32) <<< (l5 &&& 31)) l4
    else
      fX10_form_L42_J73 r l1 l3 l5 (0 : Int32) l4
def fX10_form_L85 (r : RS) (l3 : Int32) (l4 : Int32) (l5 : Int32) : Option ((Int32 × RS) ⊕ RS) :=
  (aI 9 (r.2.1 11) l3).bind fun v7 =>
  if v7 ≤ l5 then
    some (.inr r)
  else
    (fX10_inputsOf r l5 l3).bind fun q8 =>
    (sA r 27 81 l5 q8).bind fun r9 =>
    some (.inl ((l5 + (1 : Int32)), r9))
def fX10_form_L158_J246 (r : RS) (l3 : Int32) (l4 : Int32) (l5 : Int32) (l6 : Int32) : Option ((Int32 × RS) ⊕ RS) :=
  some (.inl ((l6 + (1 : Int32)), r))
def fX10_form_L158 (r : RS) (l3 : Int32) (l4 : Int32) (l5 : Int32) (l6 : Int32) : Option ((Int32 × RS) ⊕ RS) :=
  (aI 9 (r.2.1 11) l3).bind fun v12 =>
  if v12 ≤ l6 then
    some (.inr r)
  else
    if l5 = l4 then
      some (.inr r)
    else
      (fX10_isNext r l6 l4 l5).bind fun q13 =>
      if q13 = 0 then
        fX10_form_L158_J246 r l3 l4 l5 l6
      else
        (aI 81 (r.2.1 27) l6).bind fun v14 =>
        (aI 65536 (r.2.1 25) (l5 ||| (v14 &&& l4))).bind fun v15 =>
        (aI 65536 (r.2.1 25) l5).bind fun v16 =>
        if v16 ≤ ((1 : Int32) + v15) then
          fX10_form_L158_J246 r l3 l4 l5 l6
        else
          (aI 81 (r.2.1 27) l6).bind fun v17 =>
          (aI 65536 (r.2.1 25) (l5 ||| (v17 &&& l4))).bind fun v18 =>
          (sA r 25 65536 l5 ((1 : Int32) + v18)).bind fun r19 =>
          fX10_form_L158_J246 r19 l3 l4 l5 l6
def fX10_form_L120_J252 (r : RS) (l3 : Int32) (l4 : Int32) (l5 : Int32) : Option ((Int32 × RS) ⊕ RS) :=
  some (.inl ((l5 + (-1 : Int32)), r))
def fX10_form_L120_J154 (r : RS) (l3 : Int32) (l4 : Int32) (l5 : Int32) (s0 : Int32) (s1 : Int32) : Option ((Int32 × RS) ⊕ RS) :=
  (sA r 25 65536 s1 s0).bind fun r11 =>
  (lpN (fun u => fX10_form_L158 u.2 l3 l4 l5 u.1) bigN ((0 : Int32), r11)).bind fun e20 =>
  fX10_form_L120_J252 e20 l3 l4 l5
def fX10_form_L120 (r : RS) (l3 : Int32) (l4 : Int32) (l5 : Int32) : Option ((Int32 × RS) ⊕ RS) :=
  if l5 < 0 then
    some (.inr r)
  else
    if (l5 &&& (l4 ^^^ (-1 : Int32))) = 0 then
      if l5 = l4 then
        fX10_form_L120_J154 r l3 l4 l5 (0 : Int32) l5
      else
        fX10_form_L120_J154 r l3 l4 l5 (100 : Int32) l5
    else
      fX10_form_L120_J252 r l3 l4 l5
def fX10_form_L276_J319 (r : RS) (l4 : Int32) (l5 : Int32) (l6 : Int32) : Option (Int32 ⊕ Int32) :=
  some (.inl (l6 + (1 : Int32)))
def fX10_form_L276 (r : RS) (l4 : Int32) (l5 : Int32) (l6 : Int32) : Option (Int32 ⊕ Int32) :=
  (fX10_isNext r l6 l4 l5).bind fun q22 =>
  if q22 = 0 then
    fX10_form_L276_J319 r l4 l5 l6
  else
    (aI 81 (r.2.1 27) l6).bind fun v23 =>
    (aI 65536 (r.2.1 25) (l5 ||| (v23 &&& l4))).bind fun v24 =>
    (aI 65536 (r.2.1 25) l5).bind fun v25 =>
    if ((1 : Int32) + v24) = v25 then
      some (.inr l6)
    else
      fX10_form_L276_J319 r l4 l5 l6
def fX10_form_L266 (r : RS) (l4 : Int32) (l5 : Int32) : Option ((Int32 × RS) ⊕ RS) :=
  if l5 = l4 then
    some (.inr r)
  else
    (lpN (fun u => fX10_form_L276 r l4 l5 u) bigN (0 : Int32)).bind fun e26 =>
    (sA r 26 16 (r.1 7) e26).bind fun r27 =>
    (aI 81 ((rI r27 7 ((r27.1 7) + (1 : Int32))).2.1 27) e26).bind fun v28 =>
    some (.inl ((l5 ||| (v28 &&& l4)), (rI r27 7 ((r27.1 7) + (1 : Int32)))))
def fX10_form (r : RS) (a1 : Int32) : Option (Int32 × RS) :=
  (fX10_askPlace r a1).bind fun q1 =>
  if q1 = 0 then
    (aI 16 (r.2.1 0) a1).bind fun v2 =>
    if v2 ≤ (4 : Int32) then
      (fX10_tellCubes r a1).bind fun q3 =>
      (lpN (fun u => fX10_form_L42 q3 a1 v2 u.1 u.2) bigN ((0 : Int32), (0 : Int32))).bind fun e6 =>
      (lpN (fun u => fX10_form_L85 u.2 v2 e6 u.1) bigN ((0 : Int32), q3)).bind fun e10 =>
      (lpN (fun u => fX10_form_L120 u.2 v2 e6 u.1) bigN (e6, e10)).bind fun e21 =>
      (lpN (fun u => fX10_form_L266 u.2 e6 u.1) bigN ((0 : Int32), (rI e21 7 (0 : Int32)))).bind fun e29 =>
      some ((e29.1 7), e29)
    else
      some ((-5 : Int32), r)
  else
    (fX10_meet r q1).bind fun q30 =>
    some (q30.1, q30.2)
set_option maxHeartbeats 4000000 in
set_option maxRecDepth 100000 in
theorem tX10_form_L42 {κ : KK} {p : Program} {l : Launch} {e : Env} {s : State} {m : MethodId} {args : Array Value} {below : List Frame} {meth : Method} {c : Code} (C : Cx κ p s m args meth c cX10_form 7 RX10 (some .int)) {o : Nat} {v : Option Value} {B' : Heap → Prop} {r : RS} {l1 : Int32} {l3 : Int32} {l4 : Int32} {l5 : Int32} {y : (Int32 × Int32) ⊕ Int32} (h : fX10_form_L42 r l1 l3 l4 l5 = some y) (kc : ∀ u, y = .inl u → GR κ p l e s m args below meth c rmX10_form 7 o v B' r 42 [(0, .ref o), (1, .int l1), (3, .int l3), (4, .int u.1), (5, .int u.2)] []) (kx : ∀ w, y = .inr w → GR κ p l e s m args below meth c rmX10_form 7 o v B' r 82 [(0, .ref o), (3, .int l3), (4, .int w)] []) : GR κ p l e s m args below meth c rmX10_form 7 o v B' r 42 [(0, .ref o), (1, .int l1), (3, .int l3), (4, .int l4), (5, .int l5)] [] := by
  have J73 : ∀ (l5 : Int32) (s0 : Int32) (s1 : Int32), fX10_form_L42_J73 r l1 l3 l5 s0 s1 = some y → GR κ p l e s m args below meth c rmX10_form 7 o v B' r 73 [(0, .ref o), (1, .int l1), (3, .int l3), (5, .int l5)] [.int s0, .int s1] := by
    intro l5 s0 s1 h
    unfold fX10_form_L42_J73 at h
    refine G_ior (pc' := 74) C dX10_form_73 rfl ?_
    refine G_istore (pc' := 76) C dX10_form_74 [(4, .int (s1 ||| s0)), (0, .ref o), (1, .int l1), (3, .int l3), (5, .int l5)] (by decide) rfl rfl ?_
    refine G_iinc (pc' := 79) C dX10_form_76 4 rfl rfl [(5, .int (l5 + (1 : Int32))), (4, .int (s1 ||| s0)), (0, .ref o), (1, .int l1), (3, .int l3)] (by decide) rfl rfl ?_
    refine G_goto (tgt := 42) C dX10_form_79 (by decide) ?_
    exact G_sub (lv' := [(0, .ref o), (1, .int l1), (3, .int l3), (4, .int (s1 ||| s0)), (5, .int (l5 + (1 : Int32)))]) [2, 3, 4, 1, 0] rfl (kc ((s1 ||| s0), (l5 + (1 : Int32))) (Option.some.inj h).symm)
  unfold fX10_form_L42 at h
  refine G_iload (pc' := 44) C dX10_form_42 4 rfl rfl ?_
  refine G_aload_n (pc' := 45) C dX10_form_44 0 rfl rfl ?_
  refine G_iload_n (pc' := 46) C dX10_form_45 1 rfl rfl ?_
  obtain ⟨q4, hq4, h⟩ := ob h
  refine G_cV0 (pc' := 49) C dX10_form_46 (tX10_inputs κ l o r l1 q4 hq4) (wV tw_ml_X10_119 tw_im_X10_inputs tw_se_X10_X10_inputs tw_in_X10 tw_co_X10_inputs) yd_X10_inputs rfl fi_X10 (RB_rd 0 rfl) rfl rfl (by decide) rfl (Nat.le_of_ble_eq_true rfl) rfl rfl ?_
  refine G_icmp_ge (tgt := 82) (pc' := 52) C dX10_form_49 (by decide) rfl (fun hc => ?_) (fun hc => ?_)
  · replace h := z_ip hc h
    exact G_sub (lv' := [(0, .ref o), (3, .int l3), (4, .int l4)]) [0, 2, 3] rfl (kx _ (Option.some.inj h).symm)
  · replace h := z_in hc h
    refine G_iload (pc' := 54) C dX10_form_52 3 rfl rfl ?_
    refine G_aload_n (pc' := 55) C dX10_form_54 0 rfl rfl ?_
    refine G_iload_n (pc' := 56) C dX10_form_55 1 rfl rfl ?_
    refine G_iload (pc' := 58) C dX10_form_56 4 rfl rfl ?_
    obtain ⟨q5, hq5, h⟩ := ob h
    refine G_cV0 (pc' := 61) C dX10_form_58 (tX10_say0 κ l o r l1 l5 q5 hq5) (wV tw_ml_X10_123 tw_im_X10_say0 tw_se_X10_X10_say0 tw_in_X10 tw_co_X10_say0) yd_X10_say0 rfl fi_X10 (RB_rd 0 rfl) rfl rfl (by decide) rfl (Nat.le_of_ble_eq_true rfl) rfl rfl ?_
    refine G_iconst (pc' := 62) (v := (1 : Int32)) C dX10_form_61 (by decide) rfl ?_
    refine G_icmp_ne (tgt := 72) (pc' := 65) C dX10_form_62 (by decide) rfl (fun hc => ?_) (fun hc => ?_)
    · replace h := z_in hc h
      refine G_iconst (pc' := 73) (v := (0 : Int32)) C dX10_form_72 (by decide) rfl ?_
      exact G_sub (lv' := [(0, .ref o), (1, .int l1), (3, .int l3), (5, .int l5)]) [0, 1, 2, 4] rfl (J73 l5 (0 : Int32) l4 h)
    · replace h := z_ip hc h
      refine G_iconst (pc' := 66) (v := (1 : Int32)) C dX10_form_65 (by decide) rfl ?_
      refine G_iload (pc' := 68) C dX10_form_66 4 rfl rfl ?_
      refine G_ishl (pc' := 69) C dX10_form_68 rfl ?_
      refine G_goto (tgt := 73) C dX10_form_69 (by decide) ?_
      exact G_sub (lv' := [(0, .ref o), (1, .int l1), (3, .int l3), (5, .int l5)]) [0, 1, 2, 4] rfl (J73 l5 ((1 : Int32) <<< (l5 &&& 31)) l4 h)
set_option maxHeartbeats 4000000 in
set_option maxRecDepth 100000 in
theorem tX10_form_L85 {κ : KK} {p : Program} {l : Launch} {e : Env} {s : State} {m : MethodId} {args : Array Value} {below : List Frame} {meth : Method} {c : Code} (C : Cx κ p s m args meth c cX10_form 7 RX10 (some .int)) {o : Nat} {v : Option Value} {B' : Heap → Prop} {r : RS} {l3 : Int32} {l4 : Int32} {l5 : Int32} {y : (Int32 × RS) ⊕ RS} (h : fX10_form_L85 r l3 l4 l5 = some y) (kc : ∀ u, y = .inl u → GR κ p l e s m args below meth c rmX10_form 7 o v B' u.2 85 [(0, .ref o), (3, .int l3), (4, .int l4), (5, .int u.1)] []) (kx : ∀ w, y = .inr w → GR κ p l e s m args below meth c rmX10_form 7 o v B' w 116 [(0, .ref o), (3, .int l3), (4, .int l4)] []) : GR κ p l e s m args below meth c rmX10_form 7 o v B' r 85 [(0, .ref o), (3, .int l3), (4, .int l4), (5, .int l5)] [] := by
  unfold fX10_form_L85 at h
  refine G_iload (pc' := 87) C dX10_form_85 3 rfl rfl ?_
  refine G_aload_n (pc' := 88) C dX10_form_87 0 rfl rfl ?_
  refine R_g_power (pc' := 91) C dX10_form_88 rfl ?_
  refine G_iload_n (pc' := 92) C dX10_form_91 1 rfl rfl ?_
  obtain ⟨v7, hv7, h⟩ := ob h
  refine R_l_power (pc' := 93) C dX10_form_92 hv7 rfl ?_
  refine G_icmp_ge (tgt := 116) (pc' := 96) C dX10_form_93 (by decide) rfl (fun hc => ?_) (fun hc => ?_)
  · replace h := z_ip hc h
    exact G_sub (lv' := [(0, .ref o), (3, .int l3), (4, .int l4)]) [0, 1, 2] rfl (kx _ (Option.some.inj h).symm)
  · replace h := z_in hc h
    refine G_aload_n (pc' := 97) C dX10_form_96 0 rfl rfl ?_
    refine R_g_inputSet (pc' := 100) C dX10_form_97 rfl ?_
    refine G_iload (pc' := 102) C dX10_form_100 3 rfl rfl ?_
    refine G_aload_n (pc' := 103) C dX10_form_102 0 rfl rfl ?_
    refine G_iload (pc' := 105) C dX10_form_103 3 rfl rfl ?_
    refine G_iload_n (pc' := 106) C dX10_form_105 1 rfl rfl ?_
    obtain ⟨q8, hq8, h⟩ := ob h
    refine G_cV0 (pc' := 109) C dX10_form_106 (tX10_inputsOf κ l o r l5 l3 q8 hq8) (wV tw_ml_X10_231 tw_im_X10_inputsOf tw_se_X10_X10_inputsOf tw_in_X10 tw_co_X10_inputsOf) yd_X10_inputsOf rfl fi_X10 (RB_rd 0 rfl) rfl rfl (by decide) rfl (Nat.le_of_ble_eq_true rfl) rfl rfl ?_
    obtain ⟨r9, hr9, h⟩ := ob h
    refine R_s_inputSet (pc' := 110) C dX10_form_109 hr9 rfl ?_
    refine G_iinc (pc' := 113) C dX10_form_110 3 rfl rfl [(5, .int (l5 + (1 : Int32))), (0, .ref o), (3, .int l3), (4, .int l4)] (by decide) rfl rfl ?_
    refine G_goto (tgt := 85) C dX10_form_113 (by decide) ?_
    exact G_sub (lv' := [(0, .ref o), (3, .int l3), (4, .int l4), (5, .int (l5 + (1 : Int32)))]) [1, 2, 3, 0] rfl (kc ((l5 + (1 : Int32)), r9) (Option.some.inj h).symm)
set_option maxHeartbeats 4000000 in
set_option maxRecDepth 100000 in
theorem tX10_form_L158 {κ : KK} {p : Program} {l : Launch} {e : Env} {s : State} {m : MethodId} {args : Array Value} {below : List Frame} {meth : Method} {c : Code} (C : Cx κ p s m args meth c cX10_form 7 RX10 (some .int)) {o : Nat} {v : Option Value} {B' : Heap → Prop} {r : RS} {l3 : Int32} {l4 : Int32} {l5 : Int32} {l6 : Int32} {y : (Int32 × RS) ⊕ RS} (h : fX10_form_L158 r l3 l4 l5 l6 = some y) (kc : ∀ u, y = .inl u → GR κ p l e s m args below meth c rmX10_form 7 o v B' u.2 158 [(0, .ref o), (3, .int l3), (4, .int l4), (5, .int l5), (6, .int u.1)] []) (kx : ∀ w, y = .inr w → GR κ p l e s m args below meth c rmX10_form 7 o v B' w 252 [(0, .ref o), (3, .int l3), (4, .int l4), (5, .int l5)] []) : GR κ p l e s m args below meth c rmX10_form 7 o v B' r 158 [(0, .ref o), (3, .int l3), (4, .int l4), (5, .int l5), (6, .int l6)] [] := by
  have J246 : ∀ (r : RS) (l6 : Int32), fX10_form_L158_J246 r l3 l4 l5 l6 = some y → GR κ p l e s m args below meth c rmX10_form 7 o v B' r 246 [(0, .ref o), (3, .int l3), (4, .int l4), (5, .int l5), (6, .int l6)] [] := by
    intro r l6 h
    unfold fX10_form_L158_J246 at h
    refine G_iinc (pc' := 249) C dX10_form_246 4 rfl rfl [(6, .int (l6 + (1 : Int32))), (0, .ref o), (3, .int l3), (4, .int l4), (5, .int l5)] (by decide) rfl rfl ?_
    refine G_goto (tgt := 158) C dX10_form_249 (by decide) ?_
    exact G_sub (lv' := [(0, .ref o), (3, .int l3), (4, .int l4), (5, .int l5), (6, .int (l6 + (1 : Int32)))]) [1, 2, 3, 4, 0] rfl (kc ((l6 + (1 : Int32)), r) (Option.some.inj h).symm)
  unfold fX10_form_L158 at h
  refine G_iload (pc' := 160) C dX10_form_158 4 rfl rfl ?_
  refine G_aload_n (pc' := 161) C dX10_form_160 0 rfl rfl ?_
  refine R_g_power (pc' := 164) C dX10_form_161 rfl ?_
  refine G_iload_n (pc' := 165) C dX10_form_164 1 rfl rfl ?_
  obtain ⟨v12, hv12, h⟩ := ob h
  refine R_l_power (pc' := 166) C dX10_form_165 hv12 rfl ?_
  refine G_icmp_ge (tgt := 252) (pc' := 169) C dX10_form_166 (by decide) rfl (fun hc => ?_) (fun hc => ?_)
  · replace h := z_ip hc h
    exact G_sub (lv' := [(0, .ref o), (3, .int l3), (4, .int l4), (5, .int l5)]) [0, 1, 2, 3] rfl (kx _ (Option.some.inj h).symm)
  · replace h := z_in hc h
    refine G_iload (pc' := 171) C dX10_form_169 3 rfl rfl ?_
    refine G_iload (pc' := 173) C dX10_form_171 2 rfl rfl ?_
    refine G_icmp_eq (tgt := 252) (pc' := 176) C dX10_form_173 (by decide) rfl (fun hc => ?_) (fun hc => ?_)
    · replace h := z_ip hc h
      exact G_sub (lv' := [(0, .ref o), (3, .int l3), (4, .int l4), (5, .int l5)]) [0, 1, 2, 3] rfl (kx _ (Option.some.inj h).symm)
    · replace h := z_in hc h
      refine G_aload_n (pc' := 177) C dX10_form_176 0 rfl rfl ?_
      refine G_iload (pc' := 179) C dX10_form_177 4 rfl rfl ?_
      refine G_iload (pc' := 181) C dX10_form_179 2 rfl rfl ?_
      refine G_iload (pc' := 183) C dX10_form_181 3 rfl rfl ?_
      obtain ⟨q13, hq13, h⟩ := ob h
      refine G_cV0 (pc' := 186) C dX10_form_183 (tX10_isNext κ l o r l6 l4 l5 q13 hq13) (wV tw_ml_X10_234 tw_im_X10_isNext tw_se_X10_X10_isNext tw_in_X10 tw_co_X10_isNext) yd_X10_isNext rfl fi_X10 (RB_rd 0 rfl) rfl rfl (by decide) rfl (Nat.le_of_ble_eq_true rfl) rfl rfl ?_
      refine G_if_eq (tgt := 246) (pc' := 189) C dX10_form_186 (by decide) rfl (fun hc => ?_) (fun hc => ?_)
      · replace h := z_ip hc h
        exact G_sub (lv' := [(0, .ref o), (3, .int l3), (4, .int l4), (5, .int l5), (6, .int l6)]) [0, 1, 2, 3, 4] rfl (J246 r l6 h)
      · replace h := z_in hc h
        refine G_iconst (pc' := 190) (v := (1 : Int32)) C dX10_form_189 (by decide) rfl ?_
        refine G_aload_n (pc' := 191) C dX10_form_190 0 rfl rfl ?_
        refine R_g_needs (pc' := 194) C dX10_form_191 rfl ?_
        refine G_iload (pc' := 196) C dX10_form_194 3 rfl rfl ?_
        refine G_aload_n (pc' := 197) C dX10_form_196 0 rfl rfl ?_
        refine R_g_inputSet (pc' := 200) C dX10_form_197 rfl ?_
        refine G_iload (pc' := 202) C dX10_form_200 4 rfl rfl ?_
        obtain ⟨v14, hv14, h⟩ := ob h
        refine R_l_inputSet (pc' := 203) C dX10_form_202 hv14 rfl ?_
        refine G_iload (pc' := 205) C dX10_form_203 2 rfl rfl ?_
        refine G_iand (pc' := 206) C dX10_form_205 rfl ?_
        refine G_ior (pc' := 207) C dX10_form_206 rfl ?_
        obtain ⟨v15, hv15, h⟩ := ob h
        refine R_l_needs (pc' := 208) C dX10_form_207 hv15 rfl ?_
        refine G_iadd (pc' := 209) C dX10_form_208 rfl ?_
        refine G_aload_n (pc' := 210) C dX10_form_209 0 rfl rfl ?_
        refine R_g_needs (pc' := 213) C dX10_form_210 rfl ?_
        refine G_iload (pc' := 215) C dX10_form_213 3 rfl rfl ?_
        obtain ⟨v16, hv16, h⟩ := ob h
        refine R_l_needs (pc' := 216) C dX10_form_215 hv16 rfl ?_
        refine G_icmp_ge (tgt := 246) (pc' := 219) C dX10_form_216 (by decide) rfl (fun hc => ?_) (fun hc => ?_)
        · replace h := z_ip hc h
          exact G_sub (lv' := [(0, .ref o), (3, .int l3), (4, .int l4), (5, .int l5), (6, .int l6)]) [0, 1, 2, 3, 4] rfl (J246 r l6 h)
        · replace h := z_in hc h
          refine G_aload_n (pc' := 220) C dX10_form_219 0 rfl rfl ?_
          refine R_g_needs (pc' := 223) C dX10_form_220 rfl ?_
          refine G_iload (pc' := 225) C dX10_form_223 3 rfl rfl ?_
          refine G_iconst (pc' := 226) (v := (1 : Int32)) C dX10_form_225 (by decide) rfl ?_
          refine G_aload_n (pc' := 227) C dX10_form_226 0 rfl rfl ?_
          refine R_g_needs (pc' := 230) C dX10_form_227 rfl ?_
          refine G_iload (pc' := 232) C dX10_form_230 3 rfl rfl ?_
          refine G_aload_n (pc' := 233) C dX10_form_232 0 rfl rfl ?_
          refine R_g_inputSet (pc' := 236) C dX10_form_233 rfl ?_
          refine G_iload (pc' := 238) C dX10_form_236 4 rfl rfl ?_
          obtain ⟨v17, hv17, h⟩ := ob h
          refine R_l_inputSet (pc' := 239) C dX10_form_238 hv17 rfl ?_
          refine G_iload (pc' := 241) C dX10_form_239 2 rfl rfl ?_
          refine G_iand (pc' := 242) C dX10_form_241 rfl ?_
          refine G_ior (pc' := 243) C dX10_form_242 rfl ?_
          obtain ⟨v18, hv18, h⟩ := ob h
          refine R_l_needs (pc' := 244) C dX10_form_243 hv18 rfl ?_
          refine G_iadd (pc' := 245) C dX10_form_244 rfl ?_
          obtain ⟨r19, hr19, h⟩ := ob h
          refine R_s_needs (pc' := 246) C dX10_form_245 hr19 rfl ?_
          exact G_sub (lv' := [(0, .ref o), (3, .int l3), (4, .int l4), (5, .int l5), (6, .int l6)]) [0, 1, 2, 3, 4] rfl (J246 r19 l6 h)
set_option maxHeartbeats 4000000 in
set_option maxRecDepth 100000 in
theorem tX10_form_L120 {κ : KK} {p : Program} {l : Launch} {e : Env} {s : State} {m : MethodId} {args : Array Value} {below : List Frame} {meth : Method} {c : Code} (C : Cx κ p s m args meth c cX10_form 7 RX10 (some .int)) {o : Nat} {v : Option Value} {B' : Heap → Prop} {r : RS} {l3 : Int32} {l4 : Int32} {l5 : Int32} {y : (Int32 × RS) ⊕ RS} (h : fX10_form_L120 r l3 l4 l5 = some y) (kc : ∀ u, y = .inl u → GR κ p l e s m args below meth c rmX10_form 7 o v B' u.2 120 [(0, .ref o), (3, .int l3), (4, .int l4), (5, .int u.1)] []) (kx : ∀ w, y = .inr w → GR κ p l e s m args below meth c rmX10_form 7 o v B' w 258 [(0, .ref o), (4, .int l4)] []) : GR κ p l e s m args below meth c rmX10_form 7 o v B' r 120 [(0, .ref o), (3, .int l3), (4, .int l4), (5, .int l5)] [] := by
  have J252 : ∀ (r : RS) (l5 : Int32), fX10_form_L120_J252 r l3 l4 l5 = some y → GR κ p l e s m args below meth c rmX10_form 7 o v B' r 252 [(0, .ref o), (3, .int l3), (4, .int l4), (5, .int l5)] [] := by
    intro r l5 h
    unfold fX10_form_L120_J252 at h
    refine G_iinc (pc' := 255) C dX10_form_252 3 rfl rfl [(5, .int (l5 + (-1 : Int32))), (0, .ref o), (3, .int l3), (4, .int l4)] (by decide) rfl rfl ?_
    refine G_goto (tgt := 120) C dX10_form_255 (by decide) ?_
    exact G_sub (lv' := [(0, .ref o), (3, .int l3), (4, .int l4), (5, .int (l5 + (-1 : Int32)))]) [1, 2, 3, 0] rfl (kc ((l5 + (-1 : Int32)), r) (Option.some.inj h).symm)
  have J154 : ∀ (r : RS) (l5 : Int32) (s0 : Int32) (s1 : Int32), fX10_form_L120_J154 r l3 l4 l5 s0 s1 = some y → GR κ p l e s m args below meth c rmX10_form 7 o v B' r 154 [(0, .ref o), (3, .int l3), (4, .int l4), (5, .int l5)] [.int s0, .int s1, .ref (o + 26)] := by
    intro r l5 s0 s1 h
    unfold fX10_form_L120_J154 at h
    obtain ⟨r11, hr11, h⟩ := ob h
    refine R_s_needs (pc' := 155) C dX10_form_154 hr11 rfl ?_
    refine G_iconst (pc' := 156) (v := (0 : Int32)) C dX10_form_155 (by decide) rfl ?_
    refine G_istore (pc' := 158) C dX10_form_156 [(6, .int (0 : Int32)), (0, .ref o), (3, .int l3), (4, .int l4), (5, .int l5)] (by decide) rfl rfl ?_
    obtain ⟨e20, hle20, h⟩ := ob h
    refine G_sub (lv' := [(0, .ref o), (3, .int l3), (4, .int l4), (5, .int l5), (6, .int (0 : Int32))]) [1, 2, 3, 4, 0] rfl ?_
    refine lpN_ind (body := fun u => fX10_form_L158 u.2 l3 l4 l5 u.1) (P := fun u => GR κ p l e s m args below meth c rmX10_form 7 o v B' u.2 158 [(0, .ref o), (3, .int l3), (4, .int l4), (5, .int l5), (6, .int u.1)] []) (X := fun w => GR κ p l e s m args below meth c rmX10_form 7 o v B' w 252 [(0, .ref o), (3, .int l3), (4, .int l4), (5, .int l5)] []) (fun u y hb kc kx => tX10_form_L158 C hb kc kx) _ _ _ hle20 ?_
    exact G_sub (lv' := [(0, .ref o), (3, .int l3), (4, .int l4), (5, .int l5)]) [0, 1, 2, 3] rfl (J252 e20 l5 h)
  unfold fX10_form_L120 at h
  refine G_iload (pc' := 122) C dX10_form_120 3 rfl rfl ?_
  refine G_if_lt (tgt := 258) (pc' := 125) C dX10_form_122 (by decide) rfl (fun hc => ?_) (fun hc => ?_)
  · replace h := z_ip hc h
    exact G_sub (lv' := [(0, .ref o), (4, .int l4)]) [0, 2] rfl (kx _ (Option.some.inj h).symm)
  · replace h := z_in hc h
    refine G_iload (pc' := 127) C dX10_form_125 3 rfl rfl ?_
    refine G_iload (pc' := 129) C dX10_form_127 2 rfl rfl ?_
    refine G_iconst (pc' := 130) (v := (-1 : Int32)) C dX10_form_129 (by decide) rfl ?_
    refine G_ixor (pc' := 131) C dX10_form_130 rfl ?_
    refine G_iand (pc' := 132) C dX10_form_131 rfl ?_
    refine G_if_ne (tgt := 252) (pc' := 135) C dX10_form_132 (by decide) rfl (fun hc => ?_) (fun hc => ?_)
    · replace h := z_in hc h
      exact G_sub (lv' := [(0, .ref o), (3, .int l3), (4, .int l4), (5, .int l5)]) [0, 1, 2, 3] rfl (J252 r l5 h)
    · replace h := z_ip hc h
      refine G_aload_n (pc' := 136) C dX10_form_135 0 rfl rfl ?_
      refine R_g_needs (pc' := 139) C dX10_form_136 rfl ?_
      refine G_iload (pc' := 141) C dX10_form_139 3 rfl rfl ?_
      refine G_iload (pc' := 143) C dX10_form_141 3 rfl rfl ?_
      refine G_iload (pc' := 145) C dX10_form_143 2 rfl rfl ?_
      refine G_icmp_ne (tgt := 152) (pc' := 148) C dX10_form_145 (by decide) rfl (fun hc => ?_) (fun hc => ?_)
      · replace h := z_in hc h
        refine G_bipush (pc' := 154) (v := (100 : Int32)) C dX10_form_152 (by decide) rfl ?_
        exact G_sub (lv' := [(0, .ref o), (3, .int l3), (4, .int l4), (5, .int l5)]) [0, 1, 2, 3] rfl (J154 r l5 (100 : Int32) l5 h)
      · replace h := z_ip hc h
        refine G_iconst (pc' := 149) (v := (0 : Int32)) C dX10_form_148 (by decide) rfl ?_
        refine G_goto (tgt := 154) C dX10_form_149 (by decide) ?_
        exact G_sub (lv' := [(0, .ref o), (3, .int l3), (4, .int l4), (5, .int l5)]) [0, 1, 2, 3] rfl (J154 r l5 (0 : Int32) l5 h)
set_option maxHeartbeats 4000000 in
set_option maxRecDepth 100000 in
theorem tX10_form_L276 {κ : KK} {p : Program} {l : Launch} {e : Env} {s : State} {m : MethodId} {args : Array Value} {below : List Frame} {meth : Method} {c : Code} (C : Cx κ p s m args meth c cX10_form 7 RX10 (some .int)) {o : Nat} {v : Option Value} {B' : Heap → Prop} {r : RS} {l4 : Int32} {l5 : Int32} {l6 : Int32} {y : Int32 ⊕ Int32} (h : fX10_form_L276 r l4 l5 l6 = some y) (kc : ∀ u, y = .inl u → GR κ p l e s m args below meth c rmX10_form 7 o v B' r 276 [(0, .ref o), (4, .int l4), (5, .int l5), (6, .int u)] []) (kx : ∀ w, y = .inr w → GR κ p l e s m args below meth c rmX10_form 7 o v B' r 325 [(0, .ref o), (4, .int l4), (5, .int l5), (6, .int w)] []) : GR κ p l e s m args below meth c rmX10_form 7 o v B' r 276 [(0, .ref o), (4, .int l4), (5, .int l5), (6, .int l6)] [] := by
  have J319 : ∀ (l6 : Int32), fX10_form_L276_J319 r l4 l5 l6 = some y → GR κ p l e s m args below meth c rmX10_form 7 o v B' r 319 [(0, .ref o), (4, .int l4), (5, .int l5), (6, .int l6)] [] := by
    intro l6 h
    unfold fX10_form_L276_J319 at h
    refine G_iinc (pc' := 322) C dX10_form_319 3 rfl rfl [(6, .int (l6 + (1 : Int32))), (0, .ref o), (4, .int l4), (5, .int l5)] (by decide) rfl rfl ?_
    refine G_goto (tgt := 276) C dX10_form_322 (by decide) ?_
    exact G_sub (lv' := [(0, .ref o), (4, .int l4), (5, .int l5), (6, .int (l6 + (1 : Int32)))]) [1, 2, 3, 0] rfl (kc (l6 + (1 : Int32)) (Option.some.inj h).symm)
  unfold fX10_form_L276 at h
  refine G_aload_n (pc' := 277) C dX10_form_276 0 rfl rfl ?_
  refine G_iload (pc' := 279) C dX10_form_277 3 rfl rfl ?_
  refine G_iload (pc' := 281) C dX10_form_279 1 rfl rfl ?_
  refine G_iload (pc' := 283) C dX10_form_281 2 rfl rfl ?_
  obtain ⟨q22, hq22, h⟩ := ob h
  refine G_cV0 (pc' := 286) C dX10_form_283 (tX10_isNext κ l o r l6 l4 l5 q22 hq22) (wV tw_ml_X10_234 tw_im_X10_isNext tw_se_X10_X10_isNext tw_in_X10 tw_co_X10_isNext) yd_X10_isNext rfl fi_X10 (RB_rd 0 rfl) rfl rfl (by decide) rfl (Nat.le_of_ble_eq_true rfl) rfl rfl ?_
  refine G_if_eq (tgt := 319) (pc' := 289) C dX10_form_286 (by decide) rfl (fun hc => ?_) (fun hc => ?_)
  · replace h := z_ip hc h
    exact G_sub (lv' := [(0, .ref o), (4, .int l4), (5, .int l5), (6, .int l6)]) [0, 1, 2, 3] rfl (J319 l6 h)
  · replace h := z_in hc h
    refine G_iconst (pc' := 290) (v := (1 : Int32)) C dX10_form_289 (by decide) rfl ?_
    refine G_aload_n (pc' := 291) C dX10_form_290 0 rfl rfl ?_
    refine R_g_needs (pc' := 294) C dX10_form_291 rfl ?_
    refine G_iload (pc' := 296) C dX10_form_294 2 rfl rfl ?_
    refine G_aload_n (pc' := 297) C dX10_form_296 0 rfl rfl ?_
    refine R_g_inputSet (pc' := 300) C dX10_form_297 rfl ?_
    refine G_iload (pc' := 302) C dX10_form_300 3 rfl rfl ?_
    obtain ⟨v23, hv23, h⟩ := ob h
    refine R_l_inputSet (pc' := 303) C dX10_form_302 hv23 rfl ?_
    refine G_iload (pc' := 305) C dX10_form_303 1 rfl rfl ?_
    refine G_iand (pc' := 306) C dX10_form_305 rfl ?_
    refine G_ior (pc' := 307) C dX10_form_306 rfl ?_
    obtain ⟨v24, hv24, h⟩ := ob h
    refine R_l_needs (pc' := 308) C dX10_form_307 hv24 rfl ?_
    refine G_iadd (pc' := 309) C dX10_form_308 rfl ?_
    refine G_aload_n (pc' := 310) C dX10_form_309 0 rfl rfl ?_
    refine R_g_needs (pc' := 313) C dX10_form_310 rfl ?_
    refine G_iload (pc' := 315) C dX10_form_313 2 rfl rfl ?_
    obtain ⟨v25, hv25, h⟩ := ob h
    refine R_l_needs (pc' := 316) C dX10_form_315 hv25 rfl ?_
    refine G_icmp_eq (tgt := 325) (pc' := 319) C dX10_form_316 (by decide) rfl (fun hc => ?_) (fun hc => ?_)
    · replace h := z_ip hc h
      exact G_sub (lv' := [(0, .ref o), (4, .int l4), (5, .int l5), (6, .int l6)]) [0, 1, 2, 3] rfl (kx _ (Option.some.inj h).symm)
    · replace h := z_in hc h
      exact G_sub (lv' := [(0, .ref o), (4, .int l4), (5, .int l5), (6, .int l6)]) [0, 1, 2, 3] rfl (J319 l6 h)
set_option maxHeartbeats 4000000 in
set_option maxRecDepth 100000 in
theorem tX10_form_L266 {κ : KK} {p : Program} {l : Launch} {e : Env} {s : State} {m : MethodId} {args : Array Value} {below : List Frame} {meth : Method} {c : Code} (C : Cx κ p s m args meth c cX10_form 7 RX10 (some .int)) {o : Nat} {v : Option Value} {B' : Heap → Prop} {r : RS} {l4 : Int32} {l5 : Int32} {y : (Int32 × RS) ⊕ RS} (h : fX10_form_L266 r l4 l5 = some y) (kc : ∀ u, y = .inl u → GR κ p l e s m args below meth c rmX10_form 7 o v B' u.2 266 [(0, .ref o), (4, .int l4), (5, .int u.1)] []) (kx : ∀ w, y = .inr w → GR κ p l e s m args below meth c rmX10_form 7 o v B' w 364 [(0, .ref o)] []) : GR κ p l e s m args below meth c rmX10_form 7 o v B' r 266 [(0, .ref o), (4, .int l4), (5, .int l5)] [] := by
  unfold fX10_form_L266 at h
  refine G_iload (pc' := 268) C dX10_form_266 2 rfl rfl ?_
  refine G_iload (pc' := 270) C dX10_form_268 1 rfl rfl ?_
  refine G_icmp_eq (tgt := 364) (pc' := 273) C dX10_form_270 (by decide) rfl (fun hc => ?_) (fun hc => ?_)
  · replace h := z_ip hc h
    exact G_sub (lv' := [(0, .ref o)]) [0] rfl (kx _ (Option.some.inj h).symm)
  · replace h := z_in hc h
    refine G_iconst (pc' := 274) (v := (0 : Int32)) C dX10_form_273 (by decide) rfl ?_
    refine G_istore (pc' := 276) C dX10_form_274 [(6, .int (0 : Int32)), (0, .ref o), (4, .int l4), (5, .int l5)] (by decide) rfl rfl ?_
    obtain ⟨e26, hle26, h⟩ := ob h
    refine G_sub (lv' := [(0, .ref o), (4, .int l4), (5, .int l5), (6, .int (0 : Int32))]) [1, 2, 3, 0] rfl ?_
    refine lpN_ind (body := fun u => fX10_form_L276 r l4 l5 u) (P := fun u => GR κ p l e s m args below meth c rmX10_form 7 o v B' r 276 [(0, .ref o), (4, .int l4), (5, .int l5), (6, .int u)] []) (X := fun w => GR κ p l e s m args below meth c rmX10_form 7 o v B' r 325 [(0, .ref o), (4, .int l4), (5, .int l5), (6, .int w)] []) (fun u y hb kc kx => tX10_form_L276 C hb kc kx) _ _ _ hle26 ?_
    refine G_aload_n (pc' := 326) C dX10_form_325 0 rfl rfl ?_
    refine R_g_form (pc' := 329) C dX10_form_326 rfl ?_
    refine G_aload_n (pc' := 330) C dX10_form_329 0 rfl rfl ?_
    refine R_g_forms (pc' := 333) C dX10_form_330 rfl ?_
    refine G_iload (pc' := 335) C dX10_form_333 3 rfl rfl ?_
    obtain ⟨r27, hr27, h⟩ := ob h
    refine R_s_form (pc' := 336) C dX10_form_335 hr27 rfl ?_
    refine G_aload_n (pc' := 337) C dX10_form_336 0 rfl rfl ?_
    refine G_dup (pc' := 338) C dX10_form_337 rfl rfl ?_
    refine R_g_forms (pc' := 341) C dX10_form_338 rfl ?_
    refine G_iconst (pc' := 342) (v := (1 : Int32)) C dX10_form_341 (by decide) rfl ?_
    refine G_iadd (pc' := 343) C dX10_form_342 rfl ?_
    refine R_p_forms (pc' := 346) C dX10_form_343 rfl ?_
    refine G_iload (pc' := 348) C dX10_form_346 2 rfl rfl ?_
    refine G_aload_n (pc' := 349) C dX10_form_348 0 rfl rfl ?_
    refine R_g_inputSet (pc' := 352) C dX10_form_349 rfl ?_
    refine G_iload (pc' := 354) C dX10_form_352 3 rfl rfl ?_
    obtain ⟨v28, hv28, h⟩ := ob h
    refine R_l_inputSet (pc' := 355) C dX10_form_354 hv28 rfl ?_
    refine G_iload (pc' := 357) C dX10_form_355 1 rfl rfl ?_
    refine G_iand (pc' := 358) C dX10_form_357 rfl ?_
    refine G_ior (pc' := 359) C dX10_form_358 rfl ?_
    refine G_istore (pc' := 361) C dX10_form_359 [(5, .int (l5 ||| (v28 &&& l4))), (0, .ref o), (4, .int l4), (6, .int e26)] (by decide) rfl rfl ?_
    refine G_goto (tgt := 266) C dX10_form_361 (by decide) ?_
    exact G_sub (lv' := [(0, .ref o), (4, .int l4), (5, .int (l5 ||| (v28 &&& l4)))]) [1, 2, 0] rfl (kc ((l5 ||| (v28 &&& l4)), (rI r27 7 ((r27.1 7) + (1 : Int32)))) (Option.some.inj h).symm)
set_option maxHeartbeats 4000000 in
set_option maxRecDepth 100000 in
theorem tX10_form (κ : KK) (l : Launch) (o : Nat) (r : RS) (a1 : Int32) (q : Int32 × RS) (h : fX10_form r a1 = some q) : MM κ l yX10_form cX10_form 7 (some .int) rmX10_form (RA o) [.ref o, .int a1] (RB κ o r) (some (Value.int q.1)) (RB κ o q.2) := by
  refine MM.of (by decide +kernel) (Nat.le_of_ble_eq_true rfl) ?_
  intro p e s m below meth c C hnm
  unfold fX10_form at h
  refine G_sub (lv' := [(0, .ref o), (1, .int a1)]) [0, 1] rfl ?_
  refine G_aload_n (pc' := 1) C dX10_form_0 0 rfl rfl ?_
  refine G_iload_n (pc' := 2) C dX10_form_1 1 rfl rfl ?_
  obtain ⟨q1, hq1, h⟩ := ob h
  refine G_cV0 (pc' := 5) C dX10_form_2 (tX10_askPlace κ l o r a1 q1 hq1) (wV tw_ml_X10_127 tw_im_X10_askPlace tw_se_X10_X10_askPlace tw_in_X10 tw_co_X10_askPlace) yd_X10_askPlace rfl fi_X10 (RB_rd 0 rfl) rfl rfl (by decide) rfl (Nat.le_of_ble_eq_true rfl) rfl rfl ?_
  refine G_istore_n (pc' := 6) C dX10_form_5 [(2, .int q1), (0, .ref o), (1, .int a1)] (by decide) rfl rfl ?_
  refine G_iload_n (pc' := 7) C dX10_form_6 0 rfl rfl ?_
  refine G_if_eq (tgt := 16) (pc' := 10) C dX10_form_7 (by decide) rfl (fun hc => ?_) (fun hc => ?_)
  · replace h := z_ip hc h
    refine G_aload_n (pc' := 17) C dX10_form_16 1 rfl rfl ?_
    refine R_g_bits (pc' := 20) C dX10_form_17 rfl ?_
    refine G_iload_n (pc' := 21) C dX10_form_20 2 rfl rfl ?_
    obtain ⟨v2, hv2, h⟩ := ob h
    refine R_l_bits (pc' := 22) C dX10_form_21 hv2 rfl ?_
    refine G_istore_n (pc' := 23) C dX10_form_22 [(3, .int v2), (2, .int q1), (0, .ref o), (1, .int a1)] (by decide) rfl rfl ?_
    refine G_iload_n (pc' := 24) C dX10_form_23 0 rfl rfl ?_
    refine G_iconst (pc' := 25) (v := (4 : Int32)) C dX10_form_24 (by decide) rfl ?_
    refine G_icmp_le (tgt := 31) (pc' := 28) C dX10_form_25 (by decide) rfl (fun hc => ?_) (fun hc => ?_)
    · replace h := z_ip hc h
      refine G_aload_n (pc' := 32) C dX10_form_31 2 rfl rfl ?_
      refine G_iload_n (pc' := 33) C dX10_form_32 3 rfl rfl ?_
      obtain ⟨q3, hq3, h⟩ := ob h
      refine G_cV0 (pc' := 36) C dX10_form_33 (tX10_tellCubes κ l o r a1 q3 hq3) (wV tw_ml_X10_186 tw_im_X10_tellCubes tw_se_X10_X10_tellCubes tw_in_X10 tw_co_X10_tellCubes) yd_X10_tellCubes rfl fi_X10 (RB_rd 0 rfl) rfl rfl (by decide) rfl (Nat.le_of_ble_eq_true rfl) rfl rfl ?_
      refine G_iconst (pc' := 37) (v := (0 : Int32)) C dX10_form_36 (by decide) rfl ?_
      refine G_istore (pc' := 39) C dX10_form_37 [(4, .int (0 : Int32)), (3, .int v2), (2, .int q1), (0, .ref o), (1, .int a1)] (by decide) rfl rfl ?_
      refine G_iconst (pc' := 40) (v := (0 : Int32)) C dX10_form_39 (by decide) rfl ?_
      refine G_istore (pc' := 42) C dX10_form_40 [(5, .int (0 : Int32)), (4, .int (0 : Int32)), (3, .int v2), (2, .int q1), (0, .ref o), (1, .int a1)] (by decide) rfl rfl ?_
      obtain ⟨e6, hle6, h⟩ := ob h
      refine G_sub (lv' := [(0, .ref o), (1, .int a1), (3, .int v2), (4, .int (0 : Int32)), (5, .int (0 : Int32))]) [4, 5, 2, 1, 0] rfl ?_
      refine lpN_ind (body := fun u => fX10_form_L42 q3 a1 v2 u.1 u.2) (P := fun u => GR κ p l e s m ([.ref o, .int a1] : List Value).toArray below meth c rmX10_form 7 o (some (Value.int q.1)) (RB κ o q.2) q3 42 [(0, .ref o), (1, .int a1), (3, .int v2), (4, .int u.1), (5, .int u.2)] []) (X := fun w => GR κ p l e s m ([.ref o, .int a1] : List Value).toArray below meth c rmX10_form 7 o (some (Value.int q.1)) (RB κ o q.2) q3 82 [(0, .ref o), (3, .int v2), (4, .int w)] []) (fun u y hb kc kx => tX10_form_L42 C hb kc kx) _ _ _ hle6 ?_
      refine G_iconst (pc' := 83) (v := (0 : Int32)) C dX10_form_82 (by decide) rfl ?_
      refine G_istore (pc' := 85) C dX10_form_83 [(5, .int (0 : Int32)), (0, .ref o), (3, .int v2), (4, .int e6)] (by decide) rfl rfl ?_
      obtain ⟨e10, hle10, h⟩ := ob h
      refine G_sub (lv' := [(0, .ref o), (3, .int v2), (4, .int e6), (5, .int (0 : Int32))]) [1, 2, 3, 0] rfl ?_
      refine lpN_ind (body := fun u => fX10_form_L85 u.2 v2 e6 u.1) (P := fun u => GR κ p l e s m ([.ref o, .int a1] : List Value).toArray below meth c rmX10_form 7 o (some (Value.int q.1)) (RB κ o q.2) u.2 85 [(0, .ref o), (3, .int v2), (4, .int e6), (5, .int u.1)] []) (X := fun w => GR κ p l e s m ([.ref o, .int a1] : List Value).toArray below meth c rmX10_form 7 o (some (Value.int q.1)) (RB κ o q.2) w 116 [(0, .ref o), (3, .int v2), (4, .int e6)] []) (fun u y hb kc kx => tX10_form_L85 C hb kc kx) _ _ _ hle10 ?_
      refine G_iload (pc' := 118) C dX10_form_116 2 rfl rfl ?_
      refine G_istore (pc' := 120) C dX10_form_118 [(5, .int e6), (0, .ref o), (3, .int v2), (4, .int e6)] (by decide) rfl rfl ?_
      obtain ⟨e21, hle21, h⟩ := ob h
      refine G_sub (lv' := [(0, .ref o), (3, .int v2), (4, .int e6), (5, .int e6)]) [1, 2, 3, 0] rfl ?_
      refine lpN_ind (body := fun u => fX10_form_L120 u.2 v2 e6 u.1) (P := fun u => GR κ p l e s m ([.ref o, .int a1] : List Value).toArray below meth c rmX10_form 7 o (some (Value.int q.1)) (RB κ o q.2) u.2 120 [(0, .ref o), (3, .int v2), (4, .int e6), (5, .int u.1)] []) (X := fun w => GR κ p l e s m ([.ref o, .int a1] : List Value).toArray below meth c rmX10_form 7 o (some (Value.int q.1)) (RB κ o q.2) w 258 [(0, .ref o), (4, .int e6)] []) (fun u y hb kc kx => tX10_form_L120 C hb kc kx) _ _ _ hle21 ?_
      refine G_aload_n (pc' := 259) C dX10_form_258 0 rfl rfl ?_
      refine G_iconst (pc' := 260) (v := (0 : Int32)) C dX10_form_259 (by decide) rfl ?_
      refine R_p_forms (pc' := 263) C dX10_form_260 rfl ?_
      refine G_iconst (pc' := 264) (v := (0 : Int32)) C dX10_form_263 (by decide) rfl ?_
      refine G_istore (pc' := 266) C dX10_form_264 [(5, .int (0 : Int32)), (0, .ref o), (4, .int e6)] (by decide) rfl rfl ?_
      obtain ⟨e29, hle29, h⟩ := ob h
      refine G_sub (lv' := [(0, .ref o), (4, .int e6), (5, .int (0 : Int32))]) [1, 2, 0] rfl ?_
      refine lpN_ind (body := fun u => fX10_form_L266 u.2 e6 u.1) (P := fun u => GR κ p l e s m ([.ref o, .int a1] : List Value).toArray below meth c rmX10_form 7 o (some (Value.int q.1)) (RB κ o q.2) u.2 266 [(0, .ref o), (4, .int e6), (5, .int u.1)] []) (X := fun w => GR κ p l e s m ([.ref o, .int a1] : List Value).toArray below meth c rmX10_form 7 o (some (Value.int q.1)) (RB κ o q.2) w 364 [(0, .ref o)] []) (fun u y hb kc kx => tX10_form_L266 C hb kc kx) _ _ _ hle29 ?_
      refine G_aload_n (pc' := 365) C dX10_form_364 0 rfl rfl ?_
      refine R_g_forms (pc' := 368) C dX10_form_365 rfl ?_
      obtain rfl := Option.some.inj h
      exact G_iret C dX10_form_368 (fun _ h => h)
    · replace h := z_in hc h
      refine G_bipush (pc' := 30) (v := (-5 : Int32)) C dX10_form_28 (by decide) rfl ?_
      obtain rfl := Option.some.inj h
      exact G_iret C dX10_form_30 (fun _ h => h)
  · replace h := z_in hc h
    refine G_aload_n (pc' := 11) C dX10_form_10 1 rfl rfl ?_
    refine G_iload_n (pc' := 12) C dX10_form_11 0 rfl rfl ?_
    obtain ⟨q30, hq30, h⟩ := ob h
    refine G_cV0 (pc' := 15) C dX10_form_12 (tX10_meet κ l o r q1 q30 hq30) (wV tw_ml_X10_136 tw_im_X10_meet tw_se_X10_X10_meet tw_in_X10 tw_co_X10_meet) yd_X10_meet rfl fi_X10 (RB_rd 0 rfl) rfl rfl (by decide) rfl (Nat.le_of_ble_eq_true rfl) rfl rfl ?_
    obtain rfl := Option.some.inj h
    exact G_iret C dX10_form_15 (fun _ h => h)
theorem dX10_cube_0 : decode cX10_cube 0 = .ok (.iload_n 1, 1) := by decide +kernel
theorem dX10_cube_1 : decode cX10_cube 1 = .ok (.ifCond .lt 11, 3) := by decide +kernel
theorem dX10_cube_4 : decode cX10_cube 4 = .ok (.iload_n 1, 1) := by decide +kernel
theorem dX10_cube_5 : decode cX10_cube 5 = .ok (.aload_n 0, 1) := by decide +kernel
theorem dX10_cube_6 : decode cX10_cube 6 = .ok (.getfield 237, 3) := by decide +kernel
theorem dX10_cube_9 : decode cX10_cube 9 = .ok (.if_icmp .lt 8, 3) := by decide +kernel
theorem dX10_cube_12 : decode cX10_cube 12 = .ok (.bipush (-2), 2) := by decide +kernel
theorem dX10_cube_14 : decode cX10_cube 14 = .ok (.goto 9, 3) := by decide +kernel
theorem dX10_cube_17 : decode cX10_cube 17 = .ok (.aload_n 0, 1) := by decide +kernel
theorem dX10_cube_18 : decode cX10_cube 18 = .ok (.getfield 97, 3) := by decide +kernel
theorem dX10_cube_21 : decode cX10_cube 21 = .ok (.iload_n 1, 1) := by decide +kernel
theorem dX10_cube_22 : decode cX10_cube 22 = .ok (.iaload, 1) := by decide +kernel
theorem dX10_cube_23 : decode cX10_cube 23 = .ok (.ireturn, 1) := by decide +kernel
abbrev rmX10_cube : Room := { frames := 0, cells := 0, slots := 0, locals := 0 }
theorem yd_X10_cube : yX10_cube.cls = RX10 ∧ yX10_cube.cls ≠ "java/lang/invoke/MethodHandle" ∧ yX10_cube.cls ≠ "java/lang/invoke/VarHandle" ∧ (parseMethodDescriptor yX10_cube.desc).map (fun d => d.parameters.length) = some 1 := by decide +kernel
def fX10_cube_J12 (r : RS) : Option (Int32) :=
  some (-2 : Int32)
def fX10_cube (r : RS) (a1 : Int32) : Option (Int32) :=
  if a1 < 0 then
    fX10_cube_J12 r
  else
    if a1 < (r.1 7) then
      (aI 16 (r.2.1 26) a1).bind fun v1 =>
      some v1
    else
      fX10_cube_J12 r
set_option maxHeartbeats 4000000 in
set_option maxRecDepth 100000 in
theorem tX10_cube (κ : KK) (l : Launch) (o : Nat) (r : RS) (a1 : Int32) (q : Int32) (h : fX10_cube r a1 = some q) : MM κ l yX10_cube cX10_cube 2 (some .int) rmX10_cube (RA o) [.ref o, .int a1] (RB κ o r) (some (Value.int q)) (RB κ o r) := by
  refine MM.of (by decide +kernel) (Nat.le_of_ble_eq_true rfl) ?_
  intro p e s m below meth c C hnm
  have J12 : fX10_cube_J12 r = some q → GR κ p l e s m ([.ref o, .int a1] : List Value).toArray below meth c rmX10_cube 2 o (some (Value.int q)) (RB κ o r) r 12 [] [] := by
    intro  h
    unfold fX10_cube_J12 at h
    refine G_bipush (pc' := 14) (v := (-2 : Int32)) C dX10_cube_12 (by decide) rfl ?_
    refine G_goto (tgt := 23) C dX10_cube_14 (by decide) ?_
    obtain rfl := Option.some.inj h
    exact G_iret C dX10_cube_23 (fun _ h => h)
  unfold fX10_cube at h
  refine G_sub (lv' := [(0, .ref o), (1, .int a1)]) [0, 1] rfl ?_
  refine G_iload_n (pc' := 1) C dX10_cube_0 1 rfl rfl ?_
  refine G_if_lt (tgt := 12) (pc' := 4) C dX10_cube_1 (by decide) rfl (fun hc => ?_) (fun hc => ?_)
  · replace h := z_ip hc h
    exact G_sub (lv' := []) [] rfl (J12  h)
  · replace h := z_in hc h
    refine G_iload_n (pc' := 5) C dX10_cube_4 1 rfl rfl ?_
    refine G_aload_n (pc' := 6) C dX10_cube_5 0 rfl rfl ?_
    refine R_g_forms (pc' := 9) C dX10_cube_6 rfl ?_
    refine G_icmp_lt (tgt := 17) (pc' := 12) C dX10_cube_9 (by decide) rfl (fun hc => ?_) (fun hc => ?_)
    · replace h := z_ip hc h
      refine G_aload_n (pc' := 18) C dX10_cube_17 0 rfl rfl ?_
      refine R_g_form (pc' := 21) C dX10_cube_18 rfl ?_
      refine G_iload_n (pc' := 22) C dX10_cube_21 1 rfl rfl ?_
      obtain ⟨v1, hv1, h⟩ := ob h
      refine R_l_form (pc' := 23) C dX10_cube_22 hv1 rfl ?_
      obtain rfl := Option.some.inj h
      exact G_iret C dX10_cube_23 (fun _ h => h)
    · replace h := z_in hc h
      exact G_sub (lv' := []) [] rfl (J12  h)
theorem dX10_lessen_0 : decode cX10_lessen 0 = .ok (.iload_n 1, 1) := by decide +kernel
theorem dX10_lessen_1 : decode cX10_lessen 1 = .ok (.ifCond .eq 22, 3) := by decide +kernel
theorem dX10_lessen_4 : decode cX10_lessen 4 = .ok (.iload_n 1, 1) := by decide +kernel
theorem dX10_lessen_5 : decode cX10_lessen 5 = .ok (.iload_n 3, 1) := by decide +kernel
theorem dX10_lessen_6 : decode cX10_lessen 6 = .ok (.if_icmp .eq 17, 3) := by decide +kernel
theorem dX10_lessen_9 : decode cX10_lessen 9 = .ok (.iload_n 2, 1) := by decide +kernel
theorem dX10_lessen_10 : decode cX10_lessen 10 = .ok (.aload_n 0, 1) := by decide +kernel
theorem dX10_lessen_11 : decode cX10_lessen 11 = .ok (.getfield 103, 3) := by decide +kernel
theorem dX10_lessen_14 : decode cX10_lessen 14 = .ok (.iload_n 1, 1) := by decide +kernel
theorem dX10_lessen_15 : decode cX10_lessen 15 = .ok (.iaload, 1) := by decide +kernel
theorem dX10_lessen_16 : decode cX10_lessen 16 = .ok (.if_icmp .ge 7, 3) := by decide +kernel
theorem dX10_lessen_19 : decode cX10_lessen 19 = .ok (.iconst 1, 1) := by decide +kernel
theorem dX10_lessen_20 : decode cX10_lessen 20 = .ok (.goto 4, 3) := by decide +kernel
theorem dX10_lessen_23 : decode cX10_lessen 23 = .ok (.iconst 0, 1) := by decide +kernel
theorem dX10_lessen_24 : decode cX10_lessen 24 = .ok (.istore 4, 2) := by decide +kernel
theorem dX10_lessen_26 : decode cX10_lessen 26 = .ok (.iload 4, 2) := by decide +kernel
theorem dX10_lessen_28 : decode cX10_lessen 28 = .ok (.ifCond .eq 48, 3) := by decide +kernel
theorem dX10_lessen_31 : decode cX10_lessen 31 = .ok (.aload_n 0, 1) := by decide +kernel
theorem dX10_lessen_32 : decode cX10_lessen 32 = .ok (.getfield 103, 3) := by decide +kernel
theorem dX10_lessen_35 : decode cX10_lessen 35 = .ok (.iload_n 1, 1) := by decide +kernel
theorem dX10_lessen_36 : decode cX10_lessen 36 = .ok (.iload_n 2, 1) := by decide +kernel
theorem dX10_lessen_37 : decode cX10_lessen 37 = .ok (.iastore, 1) := by decide +kernel
theorem dX10_lessen_38 : decode cX10_lessen 38 = .ok (.aload_n 0, 1) := by decide +kernel
theorem dX10_lessen_39 : decode cX10_lessen 39 = .ok (.getfield 103, 3) := by decide +kernel
theorem dX10_lessen_42 : decode cX10_lessen 42 = .ok (.iload_n 3, 1) := by decide +kernel
theorem dX10_lessen_43 : decode cX10_lessen 43 = .ok (.iload_n 1, 1) := by decide +kernel
theorem dX10_lessen_44 : decode cX10_lessen 44 = .ok (.iconst (-1), 1) := by decide +kernel
theorem dX10_lessen_45 : decode cX10_lessen 45 = .ok (.ixor, 1) := by decide +kernel
theorem dX10_lessen_46 : decode cX10_lessen 46 = .ok (.iand, 1) := by decide +kernel
theorem dX10_lessen_47 : decode cX10_lessen 47 = .ok (.iload_n 2, 1) := by decide +kernel
theorem dX10_lessen_48 : decode cX10_lessen 48 = .ok (.aload_n 0, 1) := by decide +kernel
theorem dX10_lessen_49 : decode cX10_lessen 49 = .ok (.getfield 103, 3) := by decide +kernel
theorem dX10_lessen_52 : decode cX10_lessen 52 = .ok (.iload_n 3, 1) := by decide +kernel
theorem dX10_lessen_53 : decode cX10_lessen 53 = .ok (.iload_n 1, 1) := by decide +kernel
theorem dX10_lessen_54 : decode cX10_lessen 54 = .ok (.iconst (-1), 1) := by decide +kernel
theorem dX10_lessen_55 : decode cX10_lessen 55 = .ok (.ixor, 1) := by decide +kernel
theorem dX10_lessen_56 : decode cX10_lessen 56 = .ok (.iand, 1) := by decide +kernel
theorem dX10_lessen_57 : decode cX10_lessen 57 = .ok (.iaload, 1) := by decide +kernel
theorem dX10_lessen_58 : decode cX10_lessen 58 = .ok (.if_icmp .ge 7, 3) := by decide +kernel
theorem dX10_lessen_61 : decode cX10_lessen 61 = .ok (.iload_n 2, 1) := by decide +kernel
theorem dX10_lessen_62 : decode cX10_lessen 62 = .ok (.goto 13, 3) := by decide +kernel
theorem dX10_lessen_65 : decode cX10_lessen 65 = .ok (.aload_n 0, 1) := by decide +kernel
theorem dX10_lessen_66 : decode cX10_lessen 66 = .ok (.getfield 103, 3) := by decide +kernel
theorem dX10_lessen_69 : decode cX10_lessen 69 = .ok (.iload_n 3, 1) := by decide +kernel
theorem dX10_lessen_70 : decode cX10_lessen 70 = .ok (.iload_n 1, 1) := by decide +kernel
theorem dX10_lessen_71 : decode cX10_lessen 71 = .ok (.iconst (-1), 1) := by decide +kernel
theorem dX10_lessen_72 : decode cX10_lessen 72 = .ok (.ixor, 1) := by decide +kernel
theorem dX10_lessen_73 : decode cX10_lessen 73 = .ok (.iand, 1) := by decide +kernel
theorem dX10_lessen_74 : decode cX10_lessen 74 = .ok (.iaload, 1) := by decide +kernel
theorem dX10_lessen_75 : decode cX10_lessen 75 = .ok (.iastore, 1) := by decide +kernel
theorem dX10_lessen_76 : decode cX10_lessen 76 = .ok (.iload 4, 2) := by decide +kernel
theorem dX10_lessen_78 : decode cX10_lessen 78 = .ok (.ireturn, 1) := by decide +kernel
abbrev rmX10_lessen : Room := { frames := 0, cells := 0, slots := 0, locals := 0 }
theorem yd_X10_lessen : yX10_lessen.cls = RX10 ∧ yX10_lessen.cls ≠ "java/lang/invoke/MethodHandle" ∧ yX10_lessen.cls ≠ "java/lang/invoke/VarHandle" ∧ (parseMethodDescriptor yX10_lessen.desc).map (fun d => d.parameters.length) = some 3 := by decide +kernel
def fX10_lessen_J76 (r : RS) (l4 : Int32) : Option (Int32 × RS) :=
  (zI l4).bind fun z1 =>
  some (z1, r)
def fX10_lessen_J75 (r : RS) (l4 : Int32) (s0 : Int32) (s1 : Int32) : Option (Int32 × RS) :=
  (sA r 28 256 s1 s0).bind fun r5 =>
  fX10_lessen_J76 r5 l4
def fX10_lessen_J24 (r : RS) (l1 : Int32) (l2 : Int32) (l3 : Int32) (s0 : Int32) : Option (Int32 × RS) :=
  if s0 = 0 then
    fX10_lessen_J76 r s0
  else
    (sA r 28 256 l1 l2).bind fun r2 =>
    (aI 256 (r2.2.1 28) (l3 &&& (l1 ^^^ (-1 : Int32)))).bind fun v3 =>
    if v3 ≤ l2 then
      (aI 256 (r2.2.1 28) (l3 &&& (l1 ^^^ (-1 : Int32)))).bind fun v4 =>
      fX10_lessen_J75 r2 s0 v4 (l3 &&& (l1 ^^^ (-1 : Int32)))
    else
      fX10_lessen_J75 r2 s0 l2 (l3 &&& (l1 ^^^ (-1 : Int32)))
def fX10_lessen_J23 (r : RS) (l1 : Int32) (l2 : Int32) (l3 : Int32) : Option (Int32 × RS) :=
  fX10_lessen_J24 r l1 l2 l3 (0 : Int32)
def fX10_lessen (r : RS) (a1 : Int32) (a2 : Int32) (a3 : Int32) : Option (Int32 × RS) :=
  if a1 = 0 then
    fX10_lessen_J23 r a1 a2 a3
  else
    if a1 = a3 then
      fX10_lessen_J23 r a1 a2 a3
    else
      (aI 256 (r.2.1 28) a1).bind fun v6 =>
      if v6 ≤ a2 then
        fX10_lessen_J23 r a1 a2 a3
      else
        fX10_lessen_J24 r a1 a2 a3 (1 : Int32)
set_option maxHeartbeats 4000000 in
set_option maxRecDepth 100000 in
theorem tX10_lessen (κ : KK) (l : Launch) (o : Nat) (r : RS) (a1 : Int32) (a2 : Int32) (a3 : Int32) (q : Int32 × RS) (h : fX10_lessen r a1 a2 a3 = some q) : MM κ l yX10_lessen cX10_lessen 5 (some .boolean) rmX10_lessen (RA o) [.ref o, .int a1, .int a2, .int a3] (RB κ o r) (some (Value.int q.1)) (RB κ o q.2) := by
  refine MM.of (by decide +kernel) (Nat.le_of_ble_eq_true rfl) ?_
  intro p e s m below meth c C hnm
  have J76 : ∀ (r : RS) (l4 : Int32), fX10_lessen_J76 r l4 = some q → GR κ p l e s m ([.ref o, .int a1, .int a2, .int a3] : List Value).toArray below meth c rmX10_lessen 5 o (some (Value.int q.1)) (RB κ o q.2) r 76 [(4, .int l4)] [] := by
    intro r l4 h
    unfold fX10_lessen_J76 at h
    refine G_iload (pc' := 78) C dX10_lessen_76 0 rfl rfl ?_
    obtain ⟨z1, hz1, h⟩ := ob h
    obtain ⟨hz0, hz1, -⟩ := zI_s hz1
    rw [hz0]
    obtain rfl := Option.some.inj h
    exact G_zret (v := z1) C hz1 dX10_lessen_78 (fun _ h => h)
  have J75 : ∀ (r : RS) (l4 : Int32) (s0 : Int32) (s1 : Int32), fX10_lessen_J75 r l4 s0 s1 = some q → GR κ p l e s m ([.ref o, .int a1, .int a2, .int a3] : List Value).toArray below meth c rmX10_lessen 5 o (some (Value.int q.1)) (RB κ o q.2) r 75 [(4, .int l4)] [.int s0, .int s1, .ref (o + 29)] := by
    intro r l4 s0 s1 h
    unfold fX10_lessen_J75 at h
    obtain ⟨r5, hr5, h⟩ := ob h
    refine R_s_letters (pc' := 76) C dX10_lessen_75 hr5 rfl ?_
    exact G_sub (lv' := [(4, .int l4)]) [0] rfl (J76 r5 l4 h)
  have J24 : ∀ (r : RS) (l1 : Int32) (l2 : Int32) (l3 : Int32) (s0 : Int32), fX10_lessen_J24 r l1 l2 l3 s0 = some q → GR κ p l e s m ([.ref o, .int a1, .int a2, .int a3] : List Value).toArray below meth c rmX10_lessen 5 o (some (Value.int q.1)) (RB κ o q.2) r 24 [(0, .ref o), (1, .int l1), (2, .int l2), (3, .int l3)] [.int s0] := by
    intro r l1 l2 l3 s0 h
    unfold fX10_lessen_J24 at h
    refine G_istore (pc' := 26) C dX10_lessen_24 [(4, .int s0), (0, .ref o), (1, .int l1), (2, .int l2), (3, .int l3)] (by decide) rfl rfl ?_
    refine G_iload (pc' := 28) C dX10_lessen_26 0 rfl rfl ?_
    refine G_if_eq (tgt := 76) (pc' := 31) C dX10_lessen_28 (by decide) rfl (fun hc => ?_) (fun hc => ?_)
    · replace h := z_ip hc h
      exact G_sub (lv' := [(4, .int s0)]) [0] rfl (J76 r s0 h)
    · replace h := z_in hc h
      refine G_aload_n (pc' := 32) C dX10_lessen_31 1 rfl rfl ?_
      refine R_g_letters (pc' := 35) C dX10_lessen_32 rfl ?_
      refine G_iload_n (pc' := 36) C dX10_lessen_35 2 rfl rfl ?_
      refine G_iload_n (pc' := 37) C dX10_lessen_36 3 rfl rfl ?_
      obtain ⟨r2, hr2, h⟩ := ob h
      refine R_s_letters (pc' := 38) C dX10_lessen_37 hr2 rfl ?_
      refine G_aload_n (pc' := 39) C dX10_lessen_38 1 rfl rfl ?_
      refine R_g_letters (pc' := 42) C dX10_lessen_39 rfl ?_
      refine G_iload_n (pc' := 43) C dX10_lessen_42 4 rfl rfl ?_
      refine G_iload_n (pc' := 44) C dX10_lessen_43 2 rfl rfl ?_
      refine G_iconst (pc' := 45) (v := (-1 : Int32)) C dX10_lessen_44 (by decide) rfl ?_
      refine G_ixor (pc' := 46) C dX10_lessen_45 rfl ?_
      refine G_iand (pc' := 47) C dX10_lessen_46 rfl ?_
      refine G_iload_n (pc' := 48) C dX10_lessen_47 3 rfl rfl ?_
      refine G_aload_n (pc' := 49) C dX10_lessen_48 1 rfl rfl ?_
      refine R_g_letters (pc' := 52) C dX10_lessen_49 rfl ?_
      refine G_iload_n (pc' := 53) C dX10_lessen_52 4 rfl rfl ?_
      refine G_iload_n (pc' := 54) C dX10_lessen_53 2 rfl rfl ?_
      refine G_iconst (pc' := 55) (v := (-1 : Int32)) C dX10_lessen_54 (by decide) rfl ?_
      refine G_ixor (pc' := 56) C dX10_lessen_55 rfl ?_
      refine G_iand (pc' := 57) C dX10_lessen_56 rfl ?_
      obtain ⟨v3, hv3, h⟩ := ob h
      refine R_l_letters (pc' := 58) C dX10_lessen_57 hv3 rfl ?_
      refine G_icmp_ge (tgt := 65) (pc' := 61) C dX10_lessen_58 (by decide) rfl (fun hc => ?_) (fun hc => ?_)
      · replace h := z_ip hc h
        refine G_aload_n (pc' := 66) C dX10_lessen_65 1 rfl rfl ?_
        refine R_g_letters (pc' := 69) C dX10_lessen_66 rfl ?_
        refine G_iload_n (pc' := 70) C dX10_lessen_69 4 rfl rfl ?_
        refine G_iload_n (pc' := 71) C dX10_lessen_70 2 rfl rfl ?_
        refine G_iconst (pc' := 72) (v := (-1 : Int32)) C dX10_lessen_71 (by decide) rfl ?_
        refine G_ixor (pc' := 73) C dX10_lessen_72 rfl ?_
        refine G_iand (pc' := 74) C dX10_lessen_73 rfl ?_
        obtain ⟨v4, hv4, h⟩ := ob h
        refine R_l_letters (pc' := 75) C dX10_lessen_74 hv4 rfl ?_
        exact G_sub (lv' := [(4, .int s0)]) [0] rfl (J75 r2 s0 v4 (l3 &&& (l1 ^^^ (-1 : Int32))) h)
      · replace h := z_in hc h
        refine G_iload_n (pc' := 62) C dX10_lessen_61 3 rfl rfl ?_
        refine G_goto (tgt := 75) C dX10_lessen_62 (by decide) ?_
        exact G_sub (lv' := [(4, .int s0)]) [0] rfl (J75 r2 s0 l2 (l3 &&& (l1 ^^^ (-1 : Int32))) h)
  have J23 : ∀ (r : RS) (l1 : Int32) (l2 : Int32) (l3 : Int32), fX10_lessen_J23 r l1 l2 l3 = some q → GR κ p l e s m ([.ref o, .int a1, .int a2, .int a3] : List Value).toArray below meth c rmX10_lessen 5 o (some (Value.int q.1)) (RB κ o q.2) r 23 [(0, .ref o), (1, .int l1), (2, .int l2), (3, .int l3)] [] := by
    intro r l1 l2 l3 h
    unfold fX10_lessen_J23 at h
    refine G_iconst (pc' := 24) (v := (0 : Int32)) C dX10_lessen_23 (by decide) rfl ?_
    exact G_sub (lv' := [(0, .ref o), (1, .int l1), (2, .int l2), (3, .int l3)]) [0, 1, 2, 3] rfl (J24 r l1 l2 l3 (0 : Int32) h)
  unfold fX10_lessen at h
  refine G_sub (lv' := [(0, .ref o), (1, .int a1), (2, .int a2), (3, .int a3)]) [0, 1, 2, 3] rfl ?_
  refine G_iload_n (pc' := 1) C dX10_lessen_0 1 rfl rfl ?_
  refine G_if_eq (tgt := 23) (pc' := 4) C dX10_lessen_1 (by decide) rfl (fun hc => ?_) (fun hc => ?_)
  · replace h := z_ip hc h
    exact G_sub (lv' := [(0, .ref o), (1, .int a1), (2, .int a2), (3, .int a3)]) [0, 1, 2, 3] rfl (J23 r a1 a2 a3 h)
  · replace h := z_in hc h
    refine G_iload_n (pc' := 5) C dX10_lessen_4 1 rfl rfl ?_
    refine G_iload_n (pc' := 6) C dX10_lessen_5 3 rfl rfl ?_
    refine G_icmp_eq (tgt := 23) (pc' := 9) C dX10_lessen_6 (by decide) rfl (fun hc => ?_) (fun hc => ?_)
    · replace h := z_ip hc h
      exact G_sub (lv' := [(0, .ref o), (1, .int a1), (2, .int a2), (3, .int a3)]) [0, 1, 2, 3] rfl (J23 r a1 a2 a3 h)
    · replace h := z_in hc h
      refine G_iload_n (pc' := 10) C dX10_lessen_9 2 rfl rfl ?_
      refine G_aload_n (pc' := 11) C dX10_lessen_10 0 rfl rfl ?_
      refine R_g_letters (pc' := 14) C dX10_lessen_11 rfl ?_
      refine G_iload_n (pc' := 15) C dX10_lessen_14 1 rfl rfl ?_
      obtain ⟨v6, hv6, h⟩ := ob h
      refine R_l_letters (pc' := 16) C dX10_lessen_15 hv6 rfl ?_
      refine G_icmp_ge (tgt := 23) (pc' := 19) C dX10_lessen_16 (by decide) rfl (fun hc => ?_) (fun hc => ?_)
      · replace h := z_ip hc h
        exact G_sub (lv' := [(0, .ref o), (1, .int a1), (2, .int a2), (3, .int a3)]) [0, 1, 2, 3] rfl (J23 r a1 a2 a3 h)
      · replace h := z_in hc h
        refine G_iconst (pc' := 20) (v := (1 : Int32)) C dX10_lessen_19 (by decide) rfl ?_
        refine G_goto (tgt := 24) C dX10_lessen_20 (by decide) ?_
        exact G_sub (lv' := [(0, .ref o), (1, .int a1), (2, .int a2), (3, .int a3)]) [0, 1, 2, 3] rfl (J24 r a1 a2 a3 (1 : Int32) h)
theorem dX10_letters_0 : decode cX10_letters 0 = .ok (.aload_n 0, 1) := by decide +kernel
theorem dX10_letters_1 : decode cX10_letters 1 = .ok (.iload_n 1, 1) := by decide +kernel
theorem dX10_letters_2 : decode cX10_letters 2 = .ok (.invokevirtual 213, 3) := by decide +kernel
theorem dX10_letters_5 : decode cX10_letters 5 = .ok (.istore_n 2, 1) := by decide +kernel
theorem dX10_letters_6 : decode cX10_letters 6 = .ok (.iload_n 2, 1) := by decide +kernel
theorem dX10_letters_7 : decode cX10_letters 7 = .ok (.ifCond .eq 9, 3) := by decide +kernel
theorem dX10_letters_10 : decode cX10_letters 10 = .ok (.aload_n 0, 1) := by decide +kernel
theorem dX10_letters_11 : decode cX10_letters 11 = .ok (.iload_n 2, 1) := by decide +kernel
theorem dX10_letters_12 : decode cX10_letters 12 = .ok (.invokevirtual 136, 3) := by decide +kernel
theorem dX10_letters_15 : decode cX10_letters 15 = .ok (.ireturn, 1) := by decide +kernel
theorem dX10_letters_16 : decode cX10_letters 16 = .ok (.aload_n 0, 1) := by decide +kernel
theorem dX10_letters_17 : decode cX10_letters 17 = .ok (.getfield 7, 3) := by decide +kernel
theorem dX10_letters_20 : decode cX10_letters 20 = .ok (.iload_n 1, 1) := by decide +kernel
theorem dX10_letters_21 : decode cX10_letters 21 = .ok (.iaload, 1) := by decide +kernel
theorem dX10_letters_22 : decode cX10_letters 22 = .ok (.iconst 3, 1) := by decide +kernel
theorem dX10_letters_23 : decode cX10_letters 23 = .ok (.if_icmp .le 6, 3) := by decide +kernel
theorem dX10_letters_26 : decode cX10_letters 26 = .ok (.bipush (-5), 2) := by decide +kernel
theorem dX10_letters_28 : decode cX10_letters 28 = .ok (.ireturn, 1) := by decide +kernel
theorem dX10_letters_29 : decode cX10_letters 29 = .ok (.iconst 1, 1) := by decide +kernel
theorem dX10_letters_30 : decode cX10_letters 30 = .ok (.aload_n 0, 1) := by decide +kernel
theorem dX10_letters_31 : decode cX10_letters 31 = .ok (.iload_n 1, 1) := by decide +kernel
theorem dX10_letters_32 : decode cX10_letters 32 = .ok (.invokevirtual 119, 3) := by decide +kernel
theorem dX10_letters_35 : decode cX10_letters 35 = .ok (.ishl, 1) := by decide +kernel
theorem dX10_letters_36 : decode cX10_letters 36 = .ok (.iconst 1, 1) := by decide +kernel
theorem dX10_letters_37 : decode cX10_letters 37 = .ok (.isub, 1) := by decide +kernel
theorem dX10_letters_38 : decode cX10_letters 38 = .ok (.istore_n 3, 1) := by decide +kernel
theorem dX10_letters_39 : decode cX10_letters 39 = .ok (.iconst 0, 1) := by decide +kernel
theorem dX10_letters_40 : decode cX10_letters 40 = .ok (.istore 4, 2) := by decide +kernel
theorem dX10_letters_42 : decode cX10_letters 42 = .ok (.iconst 0, 1) := by decide +kernel
theorem dX10_letters_43 : decode cX10_letters 43 = .ok (.istore 5, 2) := by decide +kernel
theorem dX10_letters_45 : decode cX10_letters 45 = .ok (.iload 5, 2) := by decide +kernel
theorem dX10_letters_47 : decode cX10_letters 47 = .ok (.aload_n 0, 1) := by decide +kernel
theorem dX10_letters_48 : decode cX10_letters 48 = .ok (.iload_n 1, 1) := by decide +kernel
theorem dX10_letters_49 : decode cX10_letters 49 = .ok (.invokevirtual 119, 3) := by decide +kernel
theorem dX10_letters_52 : decode cX10_letters 52 = .ok (.if_icmp .ge 24, 3) := by decide +kernel
theorem dX10_letters_55 : decode cX10_letters 55 = .ok (.iload 4, 2) := by decide +kernel
theorem dX10_letters_57 : decode cX10_letters 57 = .ok (.aload_n 0, 1) := by decide +kernel
theorem dX10_letters_58 : decode cX10_letters 58 = .ok (.iload_n 1, 1) := by decide +kernel
theorem dX10_letters_59 : decode cX10_letters 59 = .ok (.iload 5, 2) := by decide +kernel
theorem dX10_letters_61 : decode cX10_letters 61 = .ok (.invokevirtual 123, 3) := by decide +kernel
theorem dX10_letters_64 : decode cX10_letters 64 = .ok (.iload 5, 2) := by decide +kernel
theorem dX10_letters_66 : decode cX10_letters 66 = .ok (.ishl, 1) := by decide +kernel
theorem dX10_letters_67 : decode cX10_letters 67 = .ok (.ior, 1) := by decide +kernel
theorem dX10_letters_68 : decode cX10_letters 68 = .ok (.istore 4, 2) := by decide +kernel
theorem dX10_letters_70 : decode cX10_letters 70 = .ok (.iinc 5 1, 3) := by decide +kernel
theorem dX10_letters_73 : decode cX10_letters 73 = .ok (.goto (-28), 3) := by decide +kernel
theorem dX10_letters_76 : decode cX10_letters 76 = .ok (.iconst 0, 1) := by decide +kernel
theorem dX10_letters_77 : decode cX10_letters 77 = .ok (.istore 5, 2) := by decide +kernel
theorem dX10_letters_79 : decode cX10_letters 79 = .ok (.iload 5, 2) := by decide +kernel
theorem dX10_letters_81 : decode cX10_letters 81 = .ok (.iload_n 3, 1) := by decide +kernel
theorem dX10_letters_82 : decode cX10_letters 82 = .ok (.if_icmp .gt 19, 3) := by decide +kernel
theorem dX10_letters_85 : decode cX10_letters 85 = .ok (.aload_n 0, 1) := by decide +kernel
theorem dX10_letters_86 : decode cX10_letters 86 = .ok (.getfield 103, 3) := by decide +kernel
theorem dX10_letters_89 : decode cX10_letters 89 = .ok (.iload 5, 2) := by decide +kernel
theorem dX10_letters_91 : decode cX10_letters 91 = .ok (.sipush 1000, 3) := by decide +kernel
theorem dX10_letters_94 : decode cX10_letters 94 = .ok (.iastore, 1) := by decide +kernel
theorem dX10_letters_95 : decode cX10_letters 95 = .ok (.iinc 5 1, 3) := by decide +kernel
theorem dX10_letters_98 : decode cX10_letters 98 = .ok (.goto (-19), 3) := by decide +kernel
theorem dX10_letters_101 : decode cX10_letters 101 = .ok (.iconst 0, 1) := by decide +kernel
theorem dX10_letters_102 : decode cX10_letters 102 = .ok (.istore 5, 2) := by decide +kernel
theorem dX10_letters_104 : decode cX10_letters 104 = .ok (.iload 5, 2) := by decide +kernel
theorem dX10_letters_106 : decode cX10_letters 106 = .ok (.aload_n 0, 1) := by decide +kernel
theorem dX10_letters_107 : decode cX10_letters 107 = .ok (.getfield 7, 3) := by decide +kernel
theorem dX10_letters_110 : decode cX10_letters 110 = .ok (.iload_n 1, 1) := by decide +kernel
theorem dX10_letters_111 : decode cX10_letters 111 = .ok (.iaload, 1) := by decide +kernel
theorem dX10_letters_112 : decode cX10_letters 112 = .ok (.if_icmp .ge 66, 3) := by decide +kernel
theorem dX10_letters_115 : decode cX10_letters 115 = .ok (.iconst 0, 1) := by decide +kernel
theorem dX10_letters_116 : decode cX10_letters 116 = .ok (.istore 6, 2) := by decide +kernel
theorem dX10_letters_118 : decode cX10_letters 118 = .ok (.iconst 0, 1) := by decide +kernel
theorem dX10_letters_119 : decode cX10_letters 119 = .ok (.istore 7, 2) := by decide +kernel
theorem dX10_letters_121 : decode cX10_letters 121 = .ok (.iload 7, 2) := by decide +kernel
theorem dX10_letters_123 : decode cX10_letters 123 = .ok (.aload_n 0, 1) := by decide +kernel
theorem dX10_letters_124 : decode cX10_letters 124 = .ok (.iload_n 1, 1) := by decide +kernel
theorem dX10_letters_125 : decode cX10_letters 125 = .ok (.invokevirtual 119, 3) := by decide +kernel
theorem dX10_letters_128 : decode cX10_letters 128 = .ok (.if_icmp .ge 24, 3) := by decide +kernel
theorem dX10_letters_131 : decode cX10_letters 131 = .ok (.iload 6, 2) := by decide +kernel
theorem dX10_letters_133 : decode cX10_letters 133 = .ok (.iload 7, 2) := by decide +kernel
theorem dX10_letters_135 : decode cX10_letters 135 = .ok (.iload 5, 2) := by decide +kernel
theorem dX10_letters_137 : decode cX10_letters 137 = .ok (.ishr, 1) := by decide +kernel
theorem dX10_letters_138 : decode cX10_letters 138 = .ok (.iconst 1, 1) := by decide +kernel
theorem dX10_letters_139 : decode cX10_letters 139 = .ok (.iand, 1) := by decide +kernel
theorem dX10_letters_140 : decode cX10_letters 140 = .ok (.iload 7, 2) := by decide +kernel
theorem dX10_letters_142 : decode cX10_letters 142 = .ok (.ishl, 1) := by decide +kernel
theorem dX10_letters_143 : decode cX10_letters 143 = .ok (.ior, 1) := by decide +kernel
theorem dX10_letters_144 : decode cX10_letters 144 = .ok (.istore 6, 2) := by decide +kernel
theorem dX10_letters_146 : decode cX10_letters 146 = .ok (.iinc 7 1, 3) := by decide +kernel
theorem dX10_letters_149 : decode cX10_letters 149 = .ok (.goto (-28), 3) := by decide +kernel
theorem dX10_letters_152 : decode cX10_letters 152 = .ok (.aload_n 0, 1) := by decide +kernel
theorem dX10_letters_153 : decode cX10_letters 153 = .ok (.getfield 103, 3) := by decide +kernel
theorem dX10_letters_156 : decode cX10_letters 156 = .ok (.iload 6, 2) := by decide +kernel
theorem dX10_letters_158 : decode cX10_letters 158 = .ok (.iconst 1, 1) := by decide +kernel
theorem dX10_letters_159 : decode cX10_letters 159 = .ok (.iastore, 1) := by decide +kernel
theorem dX10_letters_160 : decode cX10_letters 160 = .ok (.aload_n 0, 1) := by decide +kernel
theorem dX10_letters_161 : decode cX10_letters 161 = .ok (.getfield 103, 3) := by decide +kernel
theorem dX10_letters_164 : decode cX10_letters 164 = .ok (.iload_n 3, 1) := by decide +kernel
theorem dX10_letters_165 : decode cX10_letters 165 = .ok (.iload 6, 2) := by decide +kernel
theorem dX10_letters_167 : decode cX10_letters 167 = .ok (.iconst (-1), 1) := by decide +kernel
theorem dX10_letters_168 : decode cX10_letters 168 = .ok (.ixor, 1) := by decide +kernel
theorem dX10_letters_169 : decode cX10_letters 169 = .ok (.iand, 1) := by decide +kernel
theorem dX10_letters_170 : decode cX10_letters 170 = .ok (.iconst 1, 1) := by decide +kernel
theorem dX10_letters_171 : decode cX10_letters 171 = .ok (.iastore, 1) := by decide +kernel
theorem dX10_letters_172 : decode cX10_letters 172 = .ok (.iinc 5 1, 3) := by decide +kernel
theorem dX10_letters_175 : decode cX10_letters 175 = .ok (.goto (-71), 3) := by decide +kernel
theorem dX10_letters_178 : decode cX10_letters 178 = .ok (.iconst 1, 1) := by decide +kernel
theorem dX10_letters_179 : decode cX10_letters 179 = .ok (.istore 5, 2) := by decide +kernel
theorem dX10_letters_181 : decode cX10_letters 181 = .ok (.iload 5, 2) := by decide +kernel
theorem dX10_letters_183 : decode cX10_letters 183 = .ok (.ifCond .eq 96, 3) := by decide +kernel
theorem dX10_letters_186 : decode cX10_letters 186 = .ok (.iconst 0, 1) := by decide +kernel
theorem dX10_letters_187 : decode cX10_letters 187 = .ok (.istore 5, 2) := by decide +kernel
theorem dX10_letters_189 : decode cX10_letters 189 = .ok (.iconst 1, 1) := by decide +kernel
theorem dX10_letters_190 : decode cX10_letters 190 = .ok (.istore 6, 2) := by decide +kernel
theorem dX10_letters_192 : decode cX10_letters 192 = .ok (.iload 6, 2) := by decide +kernel
theorem dX10_letters_194 : decode cX10_letters 194 = .ok (.iload_n 3, 1) := by decide +kernel
theorem dX10_letters_195 : decode cX10_letters 195 = .ok (.if_icmp .ge 81, 3) := by decide +kernel
theorem dX10_letters_198 : decode cX10_letters 198 = .ok (.iconst 1, 1) := by decide +kernel
theorem dX10_letters_199 : decode cX10_letters 199 = .ok (.istore 7, 2) := by decide +kernel
theorem dX10_letters_201 : decode cX10_letters 201 = .ok (.iload 7, 2) := by decide +kernel
theorem dX10_letters_203 : decode cX10_letters 203 = .ok (.iload_n 3, 1) := by decide +kernel
theorem dX10_letters_204 : decode cX10_letters 204 = .ok (.if_icmp .ge 66, 3) := by decide +kernel
theorem dX10_letters_207 : decode cX10_letters 207 = .ok (.aload_n 0, 1) := by decide +kernel
theorem dX10_letters_208 : decode cX10_letters 208 = .ok (.getfield 103, 3) := by decide +kernel
theorem dX10_letters_211 : decode cX10_letters 211 = .ok (.iload 6, 2) := by decide +kernel
theorem dX10_letters_213 : decode cX10_letters 213 = .ok (.iaload, 1) := by decide +kernel
theorem dX10_letters_214 : decode cX10_letters 214 = .ok (.aload_n 0, 1) := by decide +kernel
theorem dX10_letters_215 : decode cX10_letters 215 = .ok (.getfield 103, 3) := by decide +kernel
theorem dX10_letters_218 : decode cX10_letters 218 = .ok (.iload 7, 2) := by decide +kernel
theorem dX10_letters_220 : decode cX10_letters 220 = .ok (.iaload, 1) := by decide +kernel
theorem dX10_letters_221 : decode cX10_letters 221 = .ok (.iadd, 1) := by decide +kernel
theorem dX10_letters_222 : decode cX10_letters 222 = .ok (.istore 8, 2) := by decide +kernel
theorem dX10_letters_224 : decode cX10_letters 224 = .ok (.iload 5, 2) := by decide +kernel
theorem dX10_letters_226 : decode cX10_letters 226 = .ok (.aload_n 0, 1) := by decide +kernel
theorem dX10_letters_227 : decode cX10_letters 227 = .ok (.iload 6, 2) := by decide +kernel
theorem dX10_letters_229 : decode cX10_letters 229 = .ok (.iload 7, 2) := by decide +kernel
theorem dX10_letters_231 : decode cX10_letters 231 = .ok (.iand, 1) := by decide +kernel
theorem dX10_letters_232 : decode cX10_letters 232 = .ok (.iload 8, 2) := by decide +kernel
theorem dX10_letters_234 : decode cX10_letters 234 = .ok (.iload_n 3, 1) := by decide +kernel
theorem dX10_letters_235 : decode cX10_letters 235 = .ok (.invokevirtual 240, 3) := by decide +kernel
theorem dX10_letters_238 : decode cX10_letters 238 = .ok (.ifCond .ne 18, 3) := by decide +kernel
theorem dX10_letters_241 : decode cX10_letters 241 = .ok (.aload_n 0, 1) := by decide +kernel
theorem dX10_letters_242 : decode cX10_letters 242 = .ok (.iload 6, 2) := by decide +kernel
theorem dX10_letters_244 : decode cX10_letters 244 = .ok (.iload 7, 2) := by decide +kernel
theorem dX10_letters_246 : decode cX10_letters 246 = .ok (.ior, 1) := by decide +kernel
theorem dX10_letters_247 : decode cX10_letters 247 = .ok (.iload 8, 2) := by decide +kernel
theorem dX10_letters_249 : decode cX10_letters 249 = .ok (.iload_n 3, 1) := by decide +kernel
theorem dX10_letters_250 : decode cX10_letters 250 = .ok (.invokevirtual 240, 3) := by decide +kernel
theorem dX10_letters_253 : decode cX10_letters 253 = .ok (.ifCond .eq 7, 3) := by decide +kernel
theorem dX10_letters_256 : decode cX10_letters 256 = .ok (.iconst 1, 1) := by decide +kernel
theorem dX10_letters_257 : decode cX10_letters 257 = .ok (.goto 4, 3) := by decide +kernel
theorem dX10_letters_260 : decode cX10_letters 260 = .ok (.iconst 0, 1) := by decide +kernel
theorem dX10_letters_261 : decode cX10_letters 261 = .ok (.ior, 1) := by decide +kernel
theorem dX10_letters_262 : decode cX10_letters 262 = .ok (.istore 5, 2) := by decide +kernel
theorem dX10_letters_264 : decode cX10_letters 264 = .ok (.iinc 7 1, 3) := by decide +kernel
theorem dX10_letters_267 : decode cX10_letters 267 = .ok (.goto (-66), 3) := by decide +kernel
theorem dX10_letters_270 : decode cX10_letters 270 = .ok (.iinc 6 1, 3) := by decide +kernel
theorem dX10_letters_273 : decode cX10_letters 273 = .ok (.goto (-81), 3) := by decide +kernel
theorem dX10_letters_276 : decode cX10_letters 276 = .ok (.goto (-95), 3) := by decide +kernel
theorem dX10_letters_279 : decode cX10_letters 279 = .ok (.iload 4, 2) := by decide +kernel
theorem dX10_letters_281 : decode cX10_letters 281 = .ok (.ifCond .eq 9, 3) := by decide +kernel
theorem dX10_letters_284 : decode cX10_letters 284 = .ok (.iload 4, 2) := by decide +kernel
theorem dX10_letters_286 : decode cX10_letters 286 = .ok (.iload_n 3, 1) := by decide +kernel
theorem dX10_letters_287 : decode cX10_letters 287 = .ok (.if_icmp .ne 7, 3) := by decide +kernel
theorem dX10_letters_290 : decode cX10_letters 290 = .ok (.iconst 0, 1) := by decide +kernel
theorem dX10_letters_291 : decode cX10_letters 291 = .ok (.goto 10, 3) := by decide +kernel
theorem dX10_letters_294 : decode cX10_letters 294 = .ok (.aload_n 0, 1) := by decide +kernel
theorem dX10_letters_295 : decode cX10_letters 295 = .ok (.getfield 103, 3) := by decide +kernel
theorem dX10_letters_298 : decode cX10_letters 298 = .ok (.iload 4, 2) := by decide +kernel
theorem dX10_letters_300 : decode cX10_letters 300 = .ok (.iaload, 1) := by decide +kernel
theorem dX10_letters_301 : decode cX10_letters 301 = .ok (.ireturn, 1) := by decide +kernel
abbrev rmX10_letters : Room := { frames := 3, cells := 0, slots := 0, locals := 67 }
theorem yd_X10_letters : yX10_letters.cls = RX10 ∧ yX10_letters.cls ≠ "java/lang/invoke/MethodHandle" ∧ yX10_letters.cls ≠ "java/lang/invoke/VarHandle" ∧ (parseMethodDescriptor yX10_letters.desc).map (fun d => d.parameters.length) = some 1 := by decide +kernel
def fX10_letters_L45 (r : RS) (l1 : Int32) (l3 : Int32) (l4 : Int32) (l5 : Int32) : Option ((Int32 × Int32) ⊕ Int32) :=
  (fX10_inputs r l1).bind fun q4 =>
  if q4 ≤ l5 then
    some (.inr l4)
  else
    (fX10_say0 r l1 l5).bind fun q5 =>
    some (.inl ((l4 ||| (q5 <<< (l5 &&& 31))), (l5 + (1 : Int32))))
def fX10_letters_L79 (r : RS) (l1 : Int32) (l3 : Int32) (l4 : Int32) (l5 : Int32) : Option ((Int32 × RS) ⊕ RS) :=
  if l3 < l5 then
    some (.inr r)
  else
    (sA r 28 256 l5 (1000 : Int32)).bind fun r7 =>
    some (.inl ((l5 + (1 : Int32)), r7))
def fX10_letters_L121 (r : RS) (l1 : Int32) (l3 : Int32) (l4 : Int32) (l5 : Int32) (l6 : Int32) (l7 : Int32) : Option ((Int32 × Int32) ⊕ Int32) :=
  (fX10_inputs r l1).bind fun q10 =>
  if q10 ≤ l7 then
    some (.inr l6)
  else
    some (.inl ((l6 ||| (((l7 >>> (l5 &&& 31)) &&& (1 : Int32)) <<< (l7 &&& 31))), (l7 + (1 : Int32))))
def fX10_letters_L104 (r : RS) (l1 : Int32) (l3 : Int32) (l4 : Int32) (l5 : Int32) : Option ((Int32 × RS) ⊕ RS) :=
  (aI 16 (r.2.1 0) l1).bind fun v9 =>
  if v9 ≤ l5 then
    some (.inr r)
  else
    (lpN (fun u => fX10_letters_L121 r l1 l3 l4 l5 u.1 u.2) bigN ((0 : Int32), (0 : Int32))).bind fun e11 =>
    (sA r 28 256 e11 (1 : Int32)).bind fun r12 =>
    (sA r12 28 256 (l3 &&& (e11 ^^^ (-1 : Int32))) (1 : Int32)).bind fun r13 =>
    some (.inl ((l5 + (1 : Int32)), r13))
def fX10_letters_L201_J261 (r : RS) (l3 : Int32) (l4 : Int32) (l6 : Int32) (l7 : Int32) (s0 : Int32) (s1 : Int32) : Option ((Int32 × Int32 × RS) ⊕ (Int32 × RS)) :=
  some (.inl ((s1 ||| s0), (l7 + (1 : Int32)), r))
def fX10_letters_L201_J256 (r : RS) (l3 : Int32) (l4 : Int32) (l6 : Int32) (l7 : Int32) (s0 : Int32) : Option ((Int32 × Int32 × RS) ⊕ (Int32 × RS)) :=
  fX10_letters_L201_J261 r l3 l4 l6 l7 (1 : Int32) s0
def fX10_letters_L201 (r : RS) (l3 : Int32) (l4 : Int32) (l6 : Int32) (l5 : Int32) (l7 : Int32) : Option ((Int32 × Int32 × RS) ⊕ (Int32 × RS)) :=
  if l3 ≤ l7 then
    some (.inr (l5, r))
  else
    (aI 256 (r.2.1 28) l6).bind fun v15 =>
    (aI 256 (r.2.1 28) l7).bind fun v16 =>
    (fX10_lessen r (l6 &&& l7) (v15 + v16) l3).bind fun q17 =>
    if q17.1 = 0 then
      (fX10_lessen q17.2 (l6 ||| l7) (v15 + v16) l3).bind fun q18 =>
      if q18.1 = 0 then
        fX10_letters_L201_J261 q18.2 l3 l4 l6 l7 (0 : Int32) l5
      else
        fX10_letters_L201_J256 q18.2 l3 l4 l6 l7 l5
    else
      fX10_letters_L201_J256 q17.2 l3 l4 l6 l7 l5
def fX10_letters_L192 (r : RS) (l3 : Int32) (l4 : Int32) (l5 : Int32) (l6 : Int32) : Option ((Int32 × Int32 × RS) ⊕ (Int32 × RS)) :=
  if l3 ≤ l6 then
    some (.inr (l5, r))
  else
    (lpN (fun u => fX10_letters_L201 u.2.2 l3 l4 l6 u.1 u.2.1) bigN (l5, (1 : Int32), r)).bind fun e19 =>
    some (.inl (e19.1, (l6 + (1 : Int32)), e19.2))
def fX10_letters_L181 (r : RS) (l3 : Int32) (l4 : Int32) (l5 : Int32) : Option ((Int32 × RS) ⊕ RS) :=
  if l5 = 0 then
    some (.inr r)
  else
    (lpN (fun u => fX10_letters_L192 u.2.2 l3 l4 u.1 u.2.1) bigN ((0 : Int32), (1 : Int32), r)).bind fun e20 =>
    some (.inl (e20.1, e20.2))
def fX10_letters_J290 (r : RS) : Option (Int32 × RS) :=
  some ((0 : Int32), r)
def fX10_letters (r : RS) (a1 : Int32) : Option (Int32 × RS) :=
  (fX10_askTold r a1).bind fun q1 =>
  if q1 = 0 then
    (aI 16 (r.2.1 0) a1).bind fun v2 =>
    if v2 ≤ (3 : Int32) then
      (fX10_inputs r a1).bind fun q3 =>
      (lpN (fun u => fX10_letters_L45 r a1 (((1 : Int32) <<< (q3 &&& 31)) - (1 : Int32)) u.1 u.2) bigN ((0 : Int32), (0 : Int32))).bind fun e6 =>
      (lpN (fun u => fX10_letters_L79 u.2 a1 (((1 : Int32) <<< (q3 &&& 31)) - (1 : Int32)) e6 u.1) bigN ((0 : Int32), r)).bind fun e8 =>
      (lpN (fun u => fX10_letters_L104 u.2 a1 (((1 : Int32) <<< (q3 &&& 31)) - (1 : Int32)) e6 u.1) bigN ((0 : Int32), e8)).bind fun e14 =>
      (lpN (fun u => fX10_letters_L181 u.2 (((1 : Int32) <<< (q3 &&& 31)) - (1 : Int32)) e6 u.1) bigN ((1 : Int32), e14)).bind fun e21 =>
      if e6 = 0 then
        fX10_letters_J290 e21
      else
        if e6 = (((1 : Int32) <<< (q3 &&& 31)) - (1 : Int32)) then
          fX10_letters_J290 e21
        else
          (aI 256 (e21.2.1 28) e6).bind fun v22 =>
          some (v22, e21)
    else
      some ((-5 : Int32), r)
  else
    (fX10_meet r q1).bind fun q23 =>
    some (q23.1, q23.2)
set_option maxHeartbeats 4000000 in
set_option maxRecDepth 100000 in
theorem tX10_letters_L45 {κ : KK} {p : Program} {l : Launch} {e : Env} {s : State} {m : MethodId} {args : Array Value} {below : List Frame} {meth : Method} {c : Code} (C : Cx κ p s m args meth c cX10_letters 9 RX10 (some .int)) {o : Nat} {v : Option Value} {B' : Heap → Prop} {r : RS} {l1 : Int32} {l3 : Int32} {l4 : Int32} {l5 : Int32} {y : (Int32 × Int32) ⊕ Int32} (h : fX10_letters_L45 r l1 l3 l4 l5 = some y) (kc : ∀ u, y = .inl u → GR κ p l e s m args below meth c rmX10_letters 9 o v B' r 45 [(0, .ref o), (1, .int l1), (3, .int l3), (4, .int u.1), (5, .int u.2)] []) (kx : ∀ w, y = .inr w → GR κ p l e s m args below meth c rmX10_letters 9 o v B' r 76 [(0, .ref o), (1, .int l1), (3, .int l3), (4, .int w)] []) : GR κ p l e s m args below meth c rmX10_letters 9 o v B' r 45 [(0, .ref o), (1, .int l1), (3, .int l3), (4, .int l4), (5, .int l5)] [] := by
  unfold fX10_letters_L45 at h
  refine G_iload (pc' := 47) C dX10_letters_45 4 rfl rfl ?_
  refine G_aload_n (pc' := 48) C dX10_letters_47 0 rfl rfl ?_
  refine G_iload_n (pc' := 49) C dX10_letters_48 1 rfl rfl ?_
  obtain ⟨q4, hq4, h⟩ := ob h
  refine G_cV0 (pc' := 52) C dX10_letters_49 (tX10_inputs κ l o r l1 q4 hq4) (wV tw_ml_X10_119 tw_im_X10_inputs tw_se_X10_X10_inputs tw_in_X10 tw_co_X10_inputs) yd_X10_inputs rfl fi_X10 (RB_rd 0 rfl) rfl rfl (by decide) rfl (Nat.le_of_ble_eq_true rfl) rfl rfl ?_
  refine G_icmp_ge (tgt := 76) (pc' := 55) C dX10_letters_52 (by decide) rfl (fun hc => ?_) (fun hc => ?_)
  · replace h := z_ip hc h
    exact G_sub (lv' := [(0, .ref o), (1, .int l1), (3, .int l3), (4, .int l4)]) [0, 1, 2, 3] rfl (kx _ (Option.some.inj h).symm)
  · replace h := z_in hc h
    refine G_iload (pc' := 57) C dX10_letters_55 3 rfl rfl ?_
    refine G_aload_n (pc' := 58) C dX10_letters_57 0 rfl rfl ?_
    refine G_iload_n (pc' := 59) C dX10_letters_58 1 rfl rfl ?_
    refine G_iload (pc' := 61) C dX10_letters_59 4 rfl rfl ?_
    obtain ⟨q5, hq5, h⟩ := ob h
    refine G_cV0 (pc' := 64) C dX10_letters_61 (tX10_say0 κ l o r l1 l5 q5 hq5) (wV tw_ml_X10_123 tw_im_X10_say0 tw_se_X10_X10_say0 tw_in_X10 tw_co_X10_say0) yd_X10_say0 rfl fi_X10 (RB_rd 0 rfl) rfl rfl (by decide) rfl (Nat.le_of_ble_eq_true rfl) rfl rfl ?_
    refine G_iload (pc' := 66) C dX10_letters_64 4 rfl rfl ?_
    refine G_ishl (pc' := 67) C dX10_letters_66 rfl ?_
    refine G_ior (pc' := 68) C dX10_letters_67 rfl ?_
    refine G_istore (pc' := 70) C dX10_letters_68 [(4, .int (l4 ||| (q5 <<< (l5 &&& 31)))), (0, .ref o), (1, .int l1), (3, .int l3), (5, .int l5)] (by decide) rfl rfl ?_
    refine G_iinc (pc' := 73) C dX10_letters_70 4 rfl rfl [(5, .int (l5 + (1 : Int32))), (4, .int (l4 ||| (q5 <<< (l5 &&& 31)))), (0, .ref o), (1, .int l1), (3, .int l3)] (by decide) rfl rfl ?_
    refine G_goto (tgt := 45) C dX10_letters_73 (by decide) ?_
    exact G_sub (lv' := [(0, .ref o), (1, .int l1), (3, .int l3), (4, .int (l4 ||| (q5 <<< (l5 &&& 31)))), (5, .int (l5 + (1 : Int32)))]) [2, 3, 4, 1, 0] rfl (kc ((l4 ||| (q5 <<< (l5 &&& 31))), (l5 + (1 : Int32))) (Option.some.inj h).symm)
set_option maxHeartbeats 4000000 in
set_option maxRecDepth 100000 in
theorem tX10_letters_L79 {κ : KK} {p : Program} {l : Launch} {e : Env} {s : State} {m : MethodId} {args : Array Value} {below : List Frame} {meth : Method} {c : Code} (C : Cx κ p s m args meth c cX10_letters 9 RX10 (some .int)) {o : Nat} {v : Option Value} {B' : Heap → Prop} {r : RS} {l1 : Int32} {l3 : Int32} {l4 : Int32} {l5 : Int32} {y : (Int32 × RS) ⊕ RS} (h : fX10_letters_L79 r l1 l3 l4 l5 = some y) (kc : ∀ u, y = .inl u → GR κ p l e s m args below meth c rmX10_letters 9 o v B' u.2 79 [(0, .ref o), (1, .int l1), (3, .int l3), (4, .int l4), (5, .int u.1)] []) (kx : ∀ w, y = .inr w → GR κ p l e s m args below meth c rmX10_letters 9 o v B' w 101 [(0, .ref o), (1, .int l1), (3, .int l3), (4, .int l4)] []) : GR κ p l e s m args below meth c rmX10_letters 9 o v B' r 79 [(0, .ref o), (1, .int l1), (3, .int l3), (4, .int l4), (5, .int l5)] [] := by
  unfold fX10_letters_L79 at h
  refine G_iload (pc' := 81) C dX10_letters_79 4 rfl rfl ?_
  refine G_iload_n (pc' := 82) C dX10_letters_81 2 rfl rfl ?_
  refine G_icmp_gt (tgt := 101) (pc' := 85) C dX10_letters_82 (by decide) rfl (fun hc => ?_) (fun hc => ?_)
  · replace h := z_ip hc h
    exact G_sub (lv' := [(0, .ref o), (1, .int l1), (3, .int l3), (4, .int l4)]) [0, 1, 2, 3] rfl (kx _ (Option.some.inj h).symm)
  · replace h := z_in hc h
    refine G_aload_n (pc' := 86) C dX10_letters_85 0 rfl rfl ?_
    refine R_g_letters (pc' := 89) C dX10_letters_86 rfl ?_
    refine G_iload (pc' := 91) C dX10_letters_89 4 rfl rfl ?_
    refine G_sipush (pc' := 94) (v := (1000 : Int32)) C dX10_letters_91 (by decide) rfl ?_
    obtain ⟨r7, hr7, h⟩ := ob h
    refine R_s_letters (pc' := 95) C dX10_letters_94 hr7 rfl ?_
    refine G_iinc (pc' := 98) C dX10_letters_95 4 rfl rfl [(5, .int (l5 + (1 : Int32))), (0, .ref o), (1, .int l1), (3, .int l3), (4, .int l4)] (by decide) rfl rfl ?_
    refine G_goto (tgt := 79) C dX10_letters_98 (by decide) ?_
    exact G_sub (lv' := [(0, .ref o), (1, .int l1), (3, .int l3), (4, .int l4), (5, .int (l5 + (1 : Int32)))]) [1, 2, 3, 4, 0] rfl (kc ((l5 + (1 : Int32)), r7) (Option.some.inj h).symm)
set_option maxHeartbeats 4000000 in
set_option maxRecDepth 100000 in
theorem tX10_letters_L121 {κ : KK} {p : Program} {l : Launch} {e : Env} {s : State} {m : MethodId} {args : Array Value} {below : List Frame} {meth : Method} {c : Code} (C : Cx κ p s m args meth c cX10_letters 9 RX10 (some .int)) {o : Nat} {v : Option Value} {B' : Heap → Prop} {r : RS} {l1 : Int32} {l3 : Int32} {l4 : Int32} {l5 : Int32} {l6 : Int32} {l7 : Int32} {y : (Int32 × Int32) ⊕ Int32} (h : fX10_letters_L121 r l1 l3 l4 l5 l6 l7 = some y) (kc : ∀ u, y = .inl u → GR κ p l e s m args below meth c rmX10_letters 9 o v B' r 121 [(0, .ref o), (1, .int l1), (3, .int l3), (4, .int l4), (5, .int l5), (6, .int u.1), (7, .int u.2)] []) (kx : ∀ w, y = .inr w → GR κ p l e s m args below meth c rmX10_letters 9 o v B' r 152 [(0, .ref o), (1, .int l1), (3, .int l3), (4, .int l4), (5, .int l5), (6, .int w)] []) : GR κ p l e s m args below meth c rmX10_letters 9 o v B' r 121 [(0, .ref o), (1, .int l1), (3, .int l3), (4, .int l4), (5, .int l5), (6, .int l6), (7, .int l7)] [] := by
  unfold fX10_letters_L121 at h
  refine G_iload (pc' := 123) C dX10_letters_121 6 rfl rfl ?_
  refine G_aload_n (pc' := 124) C dX10_letters_123 0 rfl rfl ?_
  refine G_iload_n (pc' := 125) C dX10_letters_124 1 rfl rfl ?_
  obtain ⟨q10, hq10, h⟩ := ob h
  refine G_cV0 (pc' := 128) C dX10_letters_125 (tX10_inputs κ l o r l1 q10 hq10) (wV tw_ml_X10_119 tw_im_X10_inputs tw_se_X10_X10_inputs tw_in_X10 tw_co_X10_inputs) yd_X10_inputs rfl fi_X10 (RB_rd 0 rfl) rfl rfl (by decide) rfl (Nat.le_of_ble_eq_true rfl) rfl rfl ?_
  refine G_icmp_ge (tgt := 152) (pc' := 131) C dX10_letters_128 (by decide) rfl (fun hc => ?_) (fun hc => ?_)
  · replace h := z_ip hc h
    exact G_sub (lv' := [(0, .ref o), (1, .int l1), (3, .int l3), (4, .int l4), (5, .int l5), (6, .int l6)]) [0, 1, 2, 3, 4, 5] rfl (kx _ (Option.some.inj h).symm)
  · replace h := z_in hc h
    refine G_iload (pc' := 133) C dX10_letters_131 5 rfl rfl ?_
    refine G_iload (pc' := 135) C dX10_letters_133 6 rfl rfl ?_
    refine G_iload (pc' := 137) C dX10_letters_135 4 rfl rfl ?_
    refine G_ishr (pc' := 138) C dX10_letters_137 rfl ?_
    refine G_iconst (pc' := 139) (v := (1 : Int32)) C dX10_letters_138 (by decide) rfl ?_
    refine G_iand (pc' := 140) C dX10_letters_139 rfl ?_
    refine G_iload (pc' := 142) C dX10_letters_140 6 rfl rfl ?_
    refine G_ishl (pc' := 143) C dX10_letters_142 rfl ?_
    refine G_ior (pc' := 144) C dX10_letters_143 rfl ?_
    refine G_istore (pc' := 146) C dX10_letters_144 [(6, .int (l6 ||| (((l7 >>> (l5 &&& 31)) &&& (1 : Int32)) <<< (l7 &&& 31)))), (0, .ref o), (1, .int l1), (3, .int l3), (4, .int l4), (5, .int l5), (7, .int l7)] (by decide) rfl rfl ?_
    refine G_iinc (pc' := 149) C dX10_letters_146 6 rfl rfl [(7, .int (l7 + (1 : Int32))), (6, .int (l6 ||| (((l7 >>> (l5 &&& 31)) &&& (1 : Int32)) <<< (l7 &&& 31)))), (0, .ref o), (1, .int l1), (3, .int l3), (4, .int l4), (5, .int l5)] (by decide) rfl rfl ?_
    refine G_goto (tgt := 121) C dX10_letters_149 (by decide) ?_
    exact G_sub (lv' := [(0, .ref o), (1, .int l1), (3, .int l3), (4, .int l4), (5, .int l5), (6, .int (l6 ||| (((l7 >>> (l5 &&& 31)) &&& (1 : Int32)) <<< (l7 &&& 31)))), (7, .int (l7 + (1 : Int32)))]) [2, 3, 4, 5, 6, 1, 0] rfl (kc ((l6 ||| (((l7 >>> (l5 &&& 31)) &&& (1 : Int32)) <<< (l7 &&& 31))), (l7 + (1 : Int32))) (Option.some.inj h).symm)
set_option maxHeartbeats 4000000 in
set_option maxRecDepth 100000 in
theorem tX10_letters_L104 {κ : KK} {p : Program} {l : Launch} {e : Env} {s : State} {m : MethodId} {args : Array Value} {below : List Frame} {meth : Method} {c : Code} (C : Cx κ p s m args meth c cX10_letters 9 RX10 (some .int)) {o : Nat} {v : Option Value} {B' : Heap → Prop} {r : RS} {l1 : Int32} {l3 : Int32} {l4 : Int32} {l5 : Int32} {y : (Int32 × RS) ⊕ RS} (h : fX10_letters_L104 r l1 l3 l4 l5 = some y) (kc : ∀ u, y = .inl u → GR κ p l e s m args below meth c rmX10_letters 9 o v B' u.2 104 [(0, .ref o), (1, .int l1), (3, .int l3), (4, .int l4), (5, .int u.1)] []) (kx : ∀ w, y = .inr w → GR κ p l e s m args below meth c rmX10_letters 9 o v B' w 178 [(0, .ref o), (3, .int l3), (4, .int l4)] []) : GR κ p l e s m args below meth c rmX10_letters 9 o v B' r 104 [(0, .ref o), (1, .int l1), (3, .int l3), (4, .int l4), (5, .int l5)] [] := by
  unfold fX10_letters_L104 at h
  refine G_iload (pc' := 106) C dX10_letters_104 4 rfl rfl ?_
  refine G_aload_n (pc' := 107) C dX10_letters_106 0 rfl rfl ?_
  refine R_g_bits (pc' := 110) C dX10_letters_107 rfl ?_
  refine G_iload_n (pc' := 111) C dX10_letters_110 1 rfl rfl ?_
  obtain ⟨v9, hv9, h⟩ := ob h
  refine R_l_bits (pc' := 112) C dX10_letters_111 hv9 rfl ?_
  refine G_icmp_ge (tgt := 178) (pc' := 115) C dX10_letters_112 (by decide) rfl (fun hc => ?_) (fun hc => ?_)
  · replace h := z_ip hc h
    exact G_sub (lv' := [(0, .ref o), (3, .int l3), (4, .int l4)]) [0, 2, 3] rfl (kx _ (Option.some.inj h).symm)
  · replace h := z_in hc h
    refine G_iconst (pc' := 116) (v := (0 : Int32)) C dX10_letters_115 (by decide) rfl ?_
    refine G_istore (pc' := 118) C dX10_letters_116 [(6, .int (0 : Int32)), (0, .ref o), (1, .int l1), (3, .int l3), (4, .int l4), (5, .int l5)] (by decide) rfl rfl ?_
    refine G_iconst (pc' := 119) (v := (0 : Int32)) C dX10_letters_118 (by decide) rfl ?_
    refine G_istore (pc' := 121) C dX10_letters_119 [(7, .int (0 : Int32)), (6, .int (0 : Int32)), (0, .ref o), (1, .int l1), (3, .int l3), (4, .int l4), (5, .int l5)] (by decide) rfl rfl ?_
    obtain ⟨e11, hle11, h⟩ := ob h
    refine G_sub (lv' := [(0, .ref o), (1, .int l1), (3, .int l3), (4, .int l4), (5, .int l5), (6, .int (0 : Int32)), (7, .int (0 : Int32))]) [2, 3, 4, 5, 6, 1, 0] rfl ?_
    refine lpN_ind (body := fun u => fX10_letters_L121 r l1 l3 l4 l5 u.1 u.2) (P := fun u => GR κ p l e s m args below meth c rmX10_letters 9 o v B' r 121 [(0, .ref o), (1, .int l1), (3, .int l3), (4, .int l4), (5, .int l5), (6, .int u.1), (7, .int u.2)] []) (X := fun w => GR κ p l e s m args below meth c rmX10_letters 9 o v B' r 152 [(0, .ref o), (1, .int l1), (3, .int l3), (4, .int l4), (5, .int l5), (6, .int w)] []) (fun u y hb kc kx => tX10_letters_L121 C hb kc kx) _ _ _ hle11 ?_
    refine G_aload_n (pc' := 153) C dX10_letters_152 0 rfl rfl ?_
    refine R_g_letters (pc' := 156) C dX10_letters_153 rfl ?_
    refine G_iload (pc' := 158) C dX10_letters_156 5 rfl rfl ?_
    refine G_iconst (pc' := 159) (v := (1 : Int32)) C dX10_letters_158 (by decide) rfl ?_
    obtain ⟨r12, hr12, h⟩ := ob h
    refine R_s_letters (pc' := 160) C dX10_letters_159 hr12 rfl ?_
    refine G_aload_n (pc' := 161) C dX10_letters_160 0 rfl rfl ?_
    refine R_g_letters (pc' := 164) C dX10_letters_161 rfl ?_
    refine G_iload_n (pc' := 165) C dX10_letters_164 2 rfl rfl ?_
    refine G_iload (pc' := 167) C dX10_letters_165 5 rfl rfl ?_
    refine G_iconst (pc' := 168) (v := (-1 : Int32)) C dX10_letters_167 (by decide) rfl ?_
    refine G_ixor (pc' := 169) C dX10_letters_168 rfl ?_
    refine G_iand (pc' := 170) C dX10_letters_169 rfl ?_
    refine G_iconst (pc' := 171) (v := (1 : Int32)) C dX10_letters_170 (by decide) rfl ?_
    obtain ⟨r13, hr13, h⟩ := ob h
    refine R_s_letters (pc' := 172) C dX10_letters_171 hr13 rfl ?_
    refine G_iinc (pc' := 175) C dX10_letters_172 4 rfl rfl [(5, .int (l5 + (1 : Int32))), (0, .ref o), (1, .int l1), (3, .int l3), (4, .int l4), (6, .int e11)] (by decide) rfl rfl ?_
    refine G_goto (tgt := 104) C dX10_letters_175 (by decide) ?_
    exact G_sub (lv' := [(0, .ref o), (1, .int l1), (3, .int l3), (4, .int l4), (5, .int (l5 + (1 : Int32)))]) [1, 2, 3, 4, 0] rfl (kc ((l5 + (1 : Int32)), r13) (Option.some.inj h).symm)
set_option maxHeartbeats 4000000 in
set_option maxRecDepth 100000 in
theorem tX10_letters_L201 {κ : KK} {p : Program} {l : Launch} {e : Env} {s : State} {m : MethodId} {args : Array Value} {below : List Frame} {meth : Method} {c : Code} (C : Cx κ p s m args meth c cX10_letters 9 RX10 (some .int)) {o : Nat} {v : Option Value} {B' : Heap → Prop} {r : RS} {l3 : Int32} {l4 : Int32} {l6 : Int32} {l5 : Int32} {l7 : Int32} {y : (Int32 × Int32 × RS) ⊕ (Int32 × RS)} (h : fX10_letters_L201 r l3 l4 l6 l5 l7 = some y) (kc : ∀ u, y = .inl u → GR κ p l e s m args below meth c rmX10_letters 9 o v B' u.2.2 201 [(0, .ref o), (3, .int l3), (4, .int l4), (5, .int u.1), (6, .int l6), (7, .int u.2.1)] []) (kx : ∀ w, y = .inr w → GR κ p l e s m args below meth c rmX10_letters 9 o v B' w.2 270 [(0, .ref o), (3, .int l3), (4, .int l4), (5, .int w.1), (6, .int l6)] []) : GR κ p l e s m args below meth c rmX10_letters 9 o v B' r 201 [(0, .ref o), (3, .int l3), (4, .int l4), (5, .int l5), (6, .int l6), (7, .int l7)] [] := by
  have J261 : ∀ (r : RS) (l7 : Int32) (s0 : Int32) (s1 : Int32), fX10_letters_L201_J261 r l3 l4 l6 l7 s0 s1 = some y → GR κ p l e s m args below meth c rmX10_letters 9 o v B' r 261 [(0, .ref o), (3, .int l3), (4, .int l4), (6, .int l6), (7, .int l7)] [.int s0, .int s1] := by
    intro r l7 s0 s1 h
    unfold fX10_letters_L201_J261 at h
    refine G_ior (pc' := 262) C dX10_letters_261 rfl ?_
    refine G_istore (pc' := 264) C dX10_letters_262 [(5, .int (s1 ||| s0)), (0, .ref o), (3, .int l3), (4, .int l4), (6, .int l6), (7, .int l7)] (by decide) rfl rfl ?_
    refine G_iinc (pc' := 267) C dX10_letters_264 5 rfl rfl [(7, .int (l7 + (1 : Int32))), (5, .int (s1 ||| s0)), (0, .ref o), (3, .int l3), (4, .int l4), (6, .int l6)] (by decide) rfl rfl ?_
    refine G_goto (tgt := 201) C dX10_letters_267 (by decide) ?_
    exact G_sub (lv' := [(0, .ref o), (3, .int l3), (4, .int l4), (5, .int (s1 ||| s0)), (6, .int l6), (7, .int (l7 + (1 : Int32)))]) [2, 3, 4, 1, 5, 0] rfl (kc ((s1 ||| s0), (l7 + (1 : Int32)), r) (Option.some.inj h).symm)
  have J256 : ∀ (r : RS) (l7 : Int32) (s0 : Int32), fX10_letters_L201_J256 r l3 l4 l6 l7 s0 = some y → GR κ p l e s m args below meth c rmX10_letters 9 o v B' r 256 [(0, .ref o), (3, .int l3), (4, .int l4), (6, .int l6), (7, .int l7)] [.int s0] := by
    intro r l7 s0 h
    unfold fX10_letters_L201_J256 at h
    refine G_iconst (pc' := 257) (v := (1 : Int32)) C dX10_letters_256 (by decide) rfl ?_
    refine G_goto (tgt := 261) C dX10_letters_257 (by decide) ?_
    exact G_sub (lv' := [(0, .ref o), (3, .int l3), (4, .int l4), (6, .int l6), (7, .int l7)]) [0, 1, 2, 3, 4] rfl (J261 r l7 (1 : Int32) s0 h)
  unfold fX10_letters_L201 at h
  refine G_iload (pc' := 203) C dX10_letters_201 5 rfl rfl ?_
  refine G_iload_n (pc' := 204) C dX10_letters_203 1 rfl rfl ?_
  refine G_icmp_ge (tgt := 270) (pc' := 207) C dX10_letters_204 (by decide) rfl (fun hc => ?_) (fun hc => ?_)
  · replace h := z_ip hc h
    exact G_sub (lv' := [(0, .ref o), (3, .int l3), (4, .int l4), (5, .int l5), (6, .int l6)]) [0, 1, 2, 3, 4] rfl (kx _ (Option.some.inj h).symm)
  · replace h := z_in hc h
    refine G_aload_n (pc' := 208) C dX10_letters_207 0 rfl rfl ?_
    refine R_g_letters (pc' := 211) C dX10_letters_208 rfl ?_
    refine G_iload (pc' := 213) C dX10_letters_211 4 rfl rfl ?_
    obtain ⟨v15, hv15, h⟩ := ob h
    refine R_l_letters (pc' := 214) C dX10_letters_213 hv15 rfl ?_
    refine G_aload_n (pc' := 215) C dX10_letters_214 0 rfl rfl ?_
    refine R_g_letters (pc' := 218) C dX10_letters_215 rfl ?_
    refine G_iload (pc' := 220) C dX10_letters_218 5 rfl rfl ?_
    obtain ⟨v16, hv16, h⟩ := ob h
    refine R_l_letters (pc' := 221) C dX10_letters_220 hv16 rfl ?_
    refine G_iadd (pc' := 222) C dX10_letters_221 rfl ?_
    refine G_istore (pc' := 224) C dX10_letters_222 [(8, .int (v15 + v16)), (0, .ref o), (3, .int l3), (4, .int l4), (5, .int l5), (6, .int l6), (7, .int l7)] (by decide) rfl rfl ?_
    refine G_iload (pc' := 226) C dX10_letters_224 4 rfl rfl ?_
    refine G_aload_n (pc' := 227) C dX10_letters_226 1 rfl rfl ?_
    refine G_iload (pc' := 229) C dX10_letters_227 5 rfl rfl ?_
    refine G_iload (pc' := 231) C dX10_letters_229 6 rfl rfl ?_
    refine G_iand (pc' := 232) C dX10_letters_231 rfl ?_
    refine G_iload (pc' := 234) C dX10_letters_232 0 rfl rfl ?_
    refine G_iload_n (pc' := 235) C dX10_letters_234 2 rfl rfl ?_
    obtain ⟨q17, hq17, h⟩ := ob h
    refine G_cV0 (pc' := 238) C dX10_letters_235 (tX10_lessen κ l o r (l6 &&& l7) (v15 + v16) l3 q17 hq17) (wV tw_ml_X10_240 tw_im_X10_lessen tw_se_X10_X10_lessen tw_in_X10 tw_co_X10_lessen) yd_X10_lessen rfl fi_X10 (RB_rd 0 rfl) rfl rfl (by decide) rfl (Nat.le_of_ble_eq_true rfl) rfl rfl ?_
    refine G_if_ne (tgt := 256) (pc' := 241) C dX10_letters_238 (by decide) rfl (fun hc => ?_) (fun hc => ?_)
    · replace h := z_in hc h
      exact G_sub (lv' := [(0, .ref o), (3, .int l3), (4, .int l4), (6, .int l6), (7, .int l7)]) [1, 2, 3, 5, 6] rfl (J256 q17.2 l7 l5 h)
    · replace h := z_ip hc h
      refine G_aload_n (pc' := 242) C dX10_letters_241 1 rfl rfl ?_
      refine G_iload (pc' := 244) C dX10_letters_242 5 rfl rfl ?_
      refine G_iload (pc' := 246) C dX10_letters_244 6 rfl rfl ?_
      refine G_ior (pc' := 247) C dX10_letters_246 rfl ?_
      refine G_iload (pc' := 249) C dX10_letters_247 0 rfl rfl ?_
      refine G_iload_n (pc' := 250) C dX10_letters_249 2 rfl rfl ?_
      obtain ⟨q18, hq18, h⟩ := ob h
      refine G_cV0 (pc' := 253) C dX10_letters_250 (tX10_lessen κ l o q17.2 (l6 ||| l7) (v15 + v16) l3 q18 hq18) (wV tw_ml_X10_240 tw_im_X10_lessen tw_se_X10_X10_lessen tw_in_X10 tw_co_X10_lessen) yd_X10_lessen rfl fi_X10 (RB_rd 0 rfl) rfl rfl (by decide) rfl (Nat.le_of_ble_eq_true rfl) rfl rfl ?_
      refine G_if_eq (tgt := 260) (pc' := 256) C dX10_letters_253 (by decide) rfl (fun hc => ?_) (fun hc => ?_)
      · replace h := z_ip hc h
        refine G_iconst (pc' := 261) (v := (0 : Int32)) C dX10_letters_260 (by decide) rfl ?_
        exact G_sub (lv' := [(0, .ref o), (3, .int l3), (4, .int l4), (6, .int l6), (7, .int l7)]) [1, 2, 3, 5, 6] rfl (J261 q18.2 l7 (0 : Int32) l5 h)
      · replace h := z_in hc h
        exact G_sub (lv' := [(0, .ref o), (3, .int l3), (4, .int l4), (6, .int l6), (7, .int l7)]) [1, 2, 3, 5, 6] rfl (J256 q18.2 l7 l5 h)
set_option maxHeartbeats 4000000 in
set_option maxRecDepth 100000 in
theorem tX10_letters_L192 {κ : KK} {p : Program} {l : Launch} {e : Env} {s : State} {m : MethodId} {args : Array Value} {below : List Frame} {meth : Method} {c : Code} (C : Cx κ p s m args meth c cX10_letters 9 RX10 (some .int)) {o : Nat} {v : Option Value} {B' : Heap → Prop} {r : RS} {l3 : Int32} {l4 : Int32} {l5 : Int32} {l6 : Int32} {y : (Int32 × Int32 × RS) ⊕ (Int32 × RS)} (h : fX10_letters_L192 r l3 l4 l5 l6 = some y) (kc : ∀ u, y = .inl u → GR κ p l e s m args below meth c rmX10_letters 9 o v B' u.2.2 192 [(0, .ref o), (3, .int l3), (4, .int l4), (5, .int u.1), (6, .int u.2.1)] []) (kx : ∀ w, y = .inr w → GR κ p l e s m args below meth c rmX10_letters 9 o v B' w.2 276 [(0, .ref o), (3, .int l3), (4, .int l4), (5, .int w.1)] []) : GR κ p l e s m args below meth c rmX10_letters 9 o v B' r 192 [(0, .ref o), (3, .int l3), (4, .int l4), (5, .int l5), (6, .int l6)] [] := by
  unfold fX10_letters_L192 at h
  refine G_iload (pc' := 194) C dX10_letters_192 4 rfl rfl ?_
  refine G_iload_n (pc' := 195) C dX10_letters_194 1 rfl rfl ?_
  refine G_icmp_ge (tgt := 276) (pc' := 198) C dX10_letters_195 (by decide) rfl (fun hc => ?_) (fun hc => ?_)
  · replace h := z_ip hc h
    exact G_sub (lv' := [(0, .ref o), (3, .int l3), (4, .int l4), (5, .int l5)]) [0, 1, 2, 3] rfl (kx _ (Option.some.inj h).symm)
  · replace h := z_in hc h
    refine G_iconst (pc' := 199) (v := (1 : Int32)) C dX10_letters_198 (by decide) rfl ?_
    refine G_istore (pc' := 201) C dX10_letters_199 [(7, .int (1 : Int32)), (0, .ref o), (3, .int l3), (4, .int l4), (5, .int l5), (6, .int l6)] (by decide) rfl rfl ?_
    obtain ⟨e19, hle19, h⟩ := ob h
    refine G_sub (lv' := [(0, .ref o), (3, .int l3), (4, .int l4), (5, .int l5), (6, .int l6), (7, .int (1 : Int32))]) [1, 2, 3, 4, 5, 0] rfl ?_
    refine lpN_ind (body := fun u => fX10_letters_L201 u.2.2 l3 l4 l6 u.1 u.2.1) (P := fun u => GR κ p l e s m args below meth c rmX10_letters 9 o v B' u.2.2 201 [(0, .ref o), (3, .int l3), (4, .int l4), (5, .int u.1), (6, .int l6), (7, .int u.2.1)] []) (X := fun w => GR κ p l e s m args below meth c rmX10_letters 9 o v B' w.2 270 [(0, .ref o), (3, .int l3), (4, .int l4), (5, .int w.1), (6, .int l6)] []) (fun u y hb kc kx => tX10_letters_L201 C hb kc kx) _ _ _ hle19 ?_
    refine G_iinc (pc' := 273) C dX10_letters_270 4 rfl rfl [(6, .int (l6 + (1 : Int32))), (0, .ref o), (3, .int l3), (4, .int l4), (5, .int e19.1)] (by decide) rfl rfl ?_
    refine G_goto (tgt := 192) C dX10_letters_273 (by decide) ?_
    exact G_sub (lv' := [(0, .ref o), (3, .int l3), (4, .int l4), (5, .int e19.1), (6, .int (l6 + (1 : Int32)))]) [1, 2, 3, 4, 0] rfl (kc (e19.1, (l6 + (1 : Int32)), e19.2) (Option.some.inj h).symm)
set_option maxHeartbeats 4000000 in
set_option maxRecDepth 100000 in
theorem tX10_letters_L181 {κ : KK} {p : Program} {l : Launch} {e : Env} {s : State} {m : MethodId} {args : Array Value} {below : List Frame} {meth : Method} {c : Code} (C : Cx κ p s m args meth c cX10_letters 9 RX10 (some .int)) {o : Nat} {v : Option Value} {B' : Heap → Prop} {r : RS} {l3 : Int32} {l4 : Int32} {l5 : Int32} {y : (Int32 × RS) ⊕ RS} (h : fX10_letters_L181 r l3 l4 l5 = some y) (kc : ∀ u, y = .inl u → GR κ p l e s m args below meth c rmX10_letters 9 o v B' u.2 181 [(0, .ref o), (3, .int l3), (4, .int l4), (5, .int u.1)] []) (kx : ∀ w, y = .inr w → GR κ p l e s m args below meth c rmX10_letters 9 o v B' w 279 [(0, .ref o), (3, .int l3), (4, .int l4)] []) : GR κ p l e s m args below meth c rmX10_letters 9 o v B' r 181 [(0, .ref o), (3, .int l3), (4, .int l4), (5, .int l5)] [] := by
  unfold fX10_letters_L181 at h
  refine G_iload (pc' := 183) C dX10_letters_181 3 rfl rfl ?_
  refine G_if_eq (tgt := 279) (pc' := 186) C dX10_letters_183 (by decide) rfl (fun hc => ?_) (fun hc => ?_)
  · replace h := z_ip hc h
    exact G_sub (lv' := [(0, .ref o), (3, .int l3), (4, .int l4)]) [0, 1, 2] rfl (kx _ (Option.some.inj h).symm)
  · replace h := z_in hc h
    refine G_iconst (pc' := 187) (v := (0 : Int32)) C dX10_letters_186 (by decide) rfl ?_
    refine G_istore (pc' := 189) C dX10_letters_187 [(5, .int (0 : Int32)), (0, .ref o), (3, .int l3), (4, .int l4)] (by decide) rfl rfl ?_
    refine G_iconst (pc' := 190) (v := (1 : Int32)) C dX10_letters_189 (by decide) rfl ?_
    refine G_istore (pc' := 192) C dX10_letters_190 [(6, .int (1 : Int32)), (5, .int (0 : Int32)), (0, .ref o), (3, .int l3), (4, .int l4)] (by decide) rfl rfl ?_
    obtain ⟨e20, hle20, h⟩ := ob h
    refine G_sub (lv' := [(0, .ref o), (3, .int l3), (4, .int l4), (5, .int (0 : Int32)), (6, .int (1 : Int32))]) [2, 3, 4, 1, 0] rfl ?_
    refine lpN_ind (body := fun u => fX10_letters_L192 u.2.2 l3 l4 u.1 u.2.1) (P := fun u => GR κ p l e s m args below meth c rmX10_letters 9 o v B' u.2.2 192 [(0, .ref o), (3, .int l3), (4, .int l4), (5, .int u.1), (6, .int u.2.1)] []) (X := fun w => GR κ p l e s m args below meth c rmX10_letters 9 o v B' w.2 276 [(0, .ref o), (3, .int l3), (4, .int l4), (5, .int w.1)] []) (fun u y hb kc kx => tX10_letters_L192 C hb kc kx) _ _ _ hle20 ?_
    refine G_goto (tgt := 181) C dX10_letters_276 (by decide) ?_
    exact G_sub (lv' := [(0, .ref o), (3, .int l3), (4, .int l4), (5, .int e20.1)]) [0, 1, 2, 3] rfl (kc (e20.1, e20.2) (Option.some.inj h).symm)
set_option maxHeartbeats 4000000 in
set_option maxRecDepth 100000 in
theorem tX10_letters (κ : KK) (l : Launch) (o : Nat) (r : RS) (a1 : Int32) (q : Int32 × RS) (h : fX10_letters r a1 = some q) : MM κ l yX10_letters cX10_letters 9 (some .int) rmX10_letters (RA o) [.ref o, .int a1] (RB κ o r) (some (Value.int q.1)) (RB κ o q.2) := by
  refine MM.of (by decide +kernel) (Nat.le_of_ble_eq_true rfl) ?_
  intro p e s m below meth c C hnm
  have J290 : ∀ (r : RS), fX10_letters_J290 r = some q → GR κ p l e s m ([.ref o, .int a1] : List Value).toArray below meth c rmX10_letters 9 o (some (Value.int q.1)) (RB κ o q.2) r 290 [] [] := by
    intro r h
    unfold fX10_letters_J290 at h
    refine G_iconst (pc' := 291) (v := (0 : Int32)) C dX10_letters_290 (by decide) rfl ?_
    refine G_goto (tgt := 301) C dX10_letters_291 (by decide) ?_
    obtain rfl := Option.some.inj h
    exact G_iret C dX10_letters_301 (fun _ h => h)
  unfold fX10_letters at h
  refine G_sub (lv' := [(0, .ref o), (1, .int a1)]) [0, 1] rfl ?_
  refine G_aload_n (pc' := 1) C dX10_letters_0 0 rfl rfl ?_
  refine G_iload_n (pc' := 2) C dX10_letters_1 1 rfl rfl ?_
  obtain ⟨q1, hq1, h⟩ := ob h
  refine G_cV0 (pc' := 5) C dX10_letters_2 (tX10_askTold κ l o r a1 q1 hq1) (wV tw_ml_X10_213 tw_im_X10_askTold tw_se_X10_X10_askTold tw_in_X10 tw_co_X10_askTold) yd_X10_askTold rfl fi_X10 (RB_rd 0 rfl) rfl rfl (by decide) rfl (Nat.le_of_ble_eq_true rfl) rfl rfl ?_
  refine G_istore_n (pc' := 6) C dX10_letters_5 [(2, .int q1), (0, .ref o), (1, .int a1)] (by decide) rfl rfl ?_
  refine G_iload_n (pc' := 7) C dX10_letters_6 0 rfl rfl ?_
  refine G_if_eq (tgt := 16) (pc' := 10) C dX10_letters_7 (by decide) rfl (fun hc => ?_) (fun hc => ?_)
  · replace h := z_ip hc h
    refine G_aload_n (pc' := 17) C dX10_letters_16 1 rfl rfl ?_
    refine R_g_bits (pc' := 20) C dX10_letters_17 rfl ?_
    refine G_iload_n (pc' := 21) C dX10_letters_20 2 rfl rfl ?_
    obtain ⟨v2, hv2, h⟩ := ob h
    refine R_l_bits (pc' := 22) C dX10_letters_21 hv2 rfl ?_
    refine G_iconst (pc' := 23) (v := (3 : Int32)) C dX10_letters_22 (by decide) rfl ?_
    refine G_icmp_le (tgt := 29) (pc' := 26) C dX10_letters_23 (by decide) rfl (fun hc => ?_) (fun hc => ?_)
    · replace h := z_ip hc h
      refine G_iconst (pc' := 30) (v := (1 : Int32)) C dX10_letters_29 (by decide) rfl ?_
      refine G_aload_n (pc' := 31) C dX10_letters_30 1 rfl rfl ?_
      refine G_iload_n (pc' := 32) C dX10_letters_31 2 rfl rfl ?_
      obtain ⟨q3, hq3, h⟩ := ob h
      refine G_cV0 (pc' := 35) C dX10_letters_32 (tX10_inputs κ l o r a1 q3 hq3) (wV tw_ml_X10_119 tw_im_X10_inputs tw_se_X10_X10_inputs tw_in_X10 tw_co_X10_inputs) yd_X10_inputs rfl fi_X10 (RB_rd 0 rfl) rfl rfl (by decide) rfl (Nat.le_of_ble_eq_true rfl) rfl rfl ?_
      refine G_ishl (pc' := 36) C dX10_letters_35 rfl ?_
      refine G_iconst (pc' := 37) (v := (1 : Int32)) C dX10_letters_36 (by decide) rfl ?_
      refine G_isub (pc' := 38) C dX10_letters_37 rfl ?_
      refine G_istore_n (pc' := 39) C dX10_letters_38 [(3, .int (((1 : Int32) <<< (q3 &&& 31)) - (1 : Int32))), (2, .int q1), (0, .ref o), (1, .int a1)] (by decide) rfl rfl ?_
      refine G_iconst (pc' := 40) (v := (0 : Int32)) C dX10_letters_39 (by decide) rfl ?_
      refine G_istore (pc' := 42) C dX10_letters_40 [(4, .int (0 : Int32)), (3, .int (((1 : Int32) <<< (q3 &&& 31)) - (1 : Int32))), (2, .int q1), (0, .ref o), (1, .int a1)] (by decide) rfl rfl ?_
      refine G_iconst (pc' := 43) (v := (0 : Int32)) C dX10_letters_42 (by decide) rfl ?_
      refine G_istore (pc' := 45) C dX10_letters_43 [(5, .int (0 : Int32)), (4, .int (0 : Int32)), (3, .int (((1 : Int32) <<< (q3 &&& 31)) - (1 : Int32))), (2, .int q1), (0, .ref o), (1, .int a1)] (by decide) rfl rfl ?_
      obtain ⟨e6, hle6, h⟩ := ob h
      refine G_sub (lv' := [(0, .ref o), (1, .int a1), (3, .int (((1 : Int32) <<< (q3 &&& 31)) - (1 : Int32))), (4, .int (0 : Int32)), (5, .int (0 : Int32))]) [4, 5, 2, 1, 0] rfl ?_
      refine lpN_ind (body := fun u => fX10_letters_L45 r a1 (((1 : Int32) <<< (q3 &&& 31)) - (1 : Int32)) u.1 u.2) (P := fun u => GR κ p l e s m ([.ref o, .int a1] : List Value).toArray below meth c rmX10_letters 9 o (some (Value.int q.1)) (RB κ o q.2) r 45 [(0, .ref o), (1, .int a1), (3, .int (((1 : Int32) <<< (q3 &&& 31)) - (1 : Int32))), (4, .int u.1), (5, .int u.2)] []) (X := fun w => GR κ p l e s m ([.ref o, .int a1] : List Value).toArray below meth c rmX10_letters 9 o (some (Value.int q.1)) (RB κ o q.2) r 76 [(0, .ref o), (1, .int a1), (3, .int (((1 : Int32) <<< (q3 &&& 31)) - (1 : Int32))), (4, .int w)] []) (fun u y hb kc kx => tX10_letters_L45 C hb kc kx) _ _ _ hle6 ?_
      refine G_iconst (pc' := 77) (v := (0 : Int32)) C dX10_letters_76 (by decide) rfl ?_
      refine G_istore (pc' := 79) C dX10_letters_77 [(5, .int (0 : Int32)), (0, .ref o), (1, .int a1), (3, .int (((1 : Int32) <<< (q3 &&& 31)) - (1 : Int32))), (4, .int e6)] (by decide) rfl rfl ?_
      obtain ⟨e8, hle8, h⟩ := ob h
      refine G_sub (lv' := [(0, .ref o), (1, .int a1), (3, .int (((1 : Int32) <<< (q3 &&& 31)) - (1 : Int32))), (4, .int e6), (5, .int (0 : Int32))]) [1, 2, 3, 4, 0] rfl ?_
      refine lpN_ind (body := fun u => fX10_letters_L79 u.2 a1 (((1 : Int32) <<< (q3 &&& 31)) - (1 : Int32)) e6 u.1) (P := fun u => GR κ p l e s m ([.ref o, .int a1] : List Value).toArray below meth c rmX10_letters 9 o (some (Value.int q.1)) (RB κ o q.2) u.2 79 [(0, .ref o), (1, .int a1), (3, .int (((1 : Int32) <<< (q3 &&& 31)) - (1 : Int32))), (4, .int e6), (5, .int u.1)] []) (X := fun w => GR κ p l e s m ([.ref o, .int a1] : List Value).toArray below meth c rmX10_letters 9 o (some (Value.int q.1)) (RB κ o q.2) w 101 [(0, .ref o), (1, .int a1), (3, .int (((1 : Int32) <<< (q3 &&& 31)) - (1 : Int32))), (4, .int e6)] []) (fun u y hb kc kx => tX10_letters_L79 C hb kc kx) _ _ _ hle8 ?_
      refine G_iconst (pc' := 102) (v := (0 : Int32)) C dX10_letters_101 (by decide) rfl ?_
      refine G_istore (pc' := 104) C dX10_letters_102 [(5, .int (0 : Int32)), (0, .ref o), (1, .int a1), (3, .int (((1 : Int32) <<< (q3 &&& 31)) - (1 : Int32))), (4, .int e6)] (by decide) rfl rfl ?_
      obtain ⟨e14, hle14, h⟩ := ob h
      refine G_sub (lv' := [(0, .ref o), (1, .int a1), (3, .int (((1 : Int32) <<< (q3 &&& 31)) - (1 : Int32))), (4, .int e6), (5, .int (0 : Int32))]) [1, 2, 3, 4, 0] rfl ?_
      refine lpN_ind (body := fun u => fX10_letters_L104 u.2 a1 (((1 : Int32) <<< (q3 &&& 31)) - (1 : Int32)) e6 u.1) (P := fun u => GR κ p l e s m ([.ref o, .int a1] : List Value).toArray below meth c rmX10_letters 9 o (some (Value.int q.1)) (RB κ o q.2) u.2 104 [(0, .ref o), (1, .int a1), (3, .int (((1 : Int32) <<< (q3 &&& 31)) - (1 : Int32))), (4, .int e6), (5, .int u.1)] []) (X := fun w => GR κ p l e s m ([.ref o, .int a1] : List Value).toArray below meth c rmX10_letters 9 o (some (Value.int q.1)) (RB κ o q.2) w 178 [(0, .ref o), (3, .int (((1 : Int32) <<< (q3 &&& 31)) - (1 : Int32))), (4, .int e6)] []) (fun u y hb kc kx => tX10_letters_L104 C hb kc kx) _ _ _ hle14 ?_
      refine G_iconst (pc' := 179) (v := (1 : Int32)) C dX10_letters_178 (by decide) rfl ?_
      refine G_istore (pc' := 181) C dX10_letters_179 [(5, .int (1 : Int32)), (0, .ref o), (3, .int (((1 : Int32) <<< (q3 &&& 31)) - (1 : Int32))), (4, .int e6)] (by decide) rfl rfl ?_
      obtain ⟨e21, hle21, h⟩ := ob h
      refine G_sub (lv' := [(0, .ref o), (3, .int (((1 : Int32) <<< (q3 &&& 31)) - (1 : Int32))), (4, .int e6), (5, .int (1 : Int32))]) [1, 2, 3, 0] rfl ?_
      refine lpN_ind (body := fun u => fX10_letters_L181 u.2 (((1 : Int32) <<< (q3 &&& 31)) - (1 : Int32)) e6 u.1) (P := fun u => GR κ p l e s m ([.ref o, .int a1] : List Value).toArray below meth c rmX10_letters 9 o (some (Value.int q.1)) (RB κ o q.2) u.2 181 [(0, .ref o), (3, .int (((1 : Int32) <<< (q3 &&& 31)) - (1 : Int32))), (4, .int e6), (5, .int u.1)] []) (X := fun w => GR κ p l e s m ([.ref o, .int a1] : List Value).toArray below meth c rmX10_letters 9 o (some (Value.int q.1)) (RB κ o q.2) w 279 [(0, .ref o), (3, .int (((1 : Int32) <<< (q3 &&& 31)) - (1 : Int32))), (4, .int e6)] []) (fun u y hb kc kx => tX10_letters_L181 C hb kc kx) _ _ _ hle21 ?_
      refine G_iload (pc' := 281) C dX10_letters_279 2 rfl rfl ?_
      refine G_if_eq (tgt := 290) (pc' := 284) C dX10_letters_281 (by decide) rfl (fun hc => ?_) (fun hc => ?_)
      · replace h := z_ip hc h
        exact G_sub (lv' := []) [] rfl (J290 e21 h)
      · replace h := z_in hc h
        refine G_iload (pc' := 286) C dX10_letters_284 2 rfl rfl ?_
        refine G_iload_n (pc' := 287) C dX10_letters_286 1 rfl rfl ?_
        refine G_icmp_ne (tgt := 294) (pc' := 290) C dX10_letters_287 (by decide) rfl (fun hc => ?_) (fun hc => ?_)
        · replace h := z_in hc h
          refine G_aload_n (pc' := 295) C dX10_letters_294 0 rfl rfl ?_
          refine R_g_letters (pc' := 298) C dX10_letters_295 rfl ?_
          refine G_iload (pc' := 300) C dX10_letters_298 2 rfl rfl ?_
          obtain ⟨v22, hv22, h⟩ := ob h
          refine R_l_letters (pc' := 301) C dX10_letters_300 hv22 rfl ?_
          obtain rfl := Option.some.inj h
          exact G_iret C dX10_letters_301 (fun _ h => h)
        · replace h := z_ip hc h
          exact G_sub (lv' := []) [] rfl (J290 e21 h)
    · replace h := z_in hc h
      refine G_bipush (pc' := 28) (v := (-5 : Int32)) C dX10_letters_26 (by decide) rfl ?_
      obtain rfl := Option.some.inj h
      exact G_iret C dX10_letters_28 (fun _ h => h)
  · replace h := z_in hc h
    refine G_aload_n (pc' := 11) C dX10_letters_10 1 rfl rfl ?_
    refine G_iload_n (pc' := 12) C dX10_letters_11 0 rfl rfl ?_
    obtain ⟨q23, hq23, h⟩ := ob h
    refine G_cV0 (pc' := 15) C dX10_letters_12 (tX10_meet κ l o r q1 q23 hq23) (wV tw_ml_X10_136 tw_im_X10_meet tw_se_X10_X10_meet tw_in_X10 tw_co_X10_meet) yd_X10_meet rfl fi_X10 (RB_rd 0 rfl) rfl rfl (by decide) rfl (Nat.le_of_ble_eq_true rfl) rfl rfl ?_
    obtain rfl := Option.some.inj h
    exact G_iret C dX10_letters_15 (fun _ h => h)
