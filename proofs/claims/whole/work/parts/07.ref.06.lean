theorem dX10_node_0 : decode cX10_node 0 = .ok (.iload_n 1, 1) := by decide +kernel
theorem dX10_node_1 : decode cX10_node 1 = .ok (.ifCond .lt 20, 3) := by decide +kernel
theorem dX10_node_4 : decode cX10_node 4 = .ok (.iload_n 1, 1) := by decide +kernel
theorem dX10_node_5 : decode cX10_node 5 = .ok (.aload_n 0, 1) := by decide +kernel
theorem dX10_node_6 : decode cX10_node 6 = .ok (.getfield 193, 3) := by decide +kernel
theorem dX10_node_9 : decode cX10_node 9 = .ok (.if_icmp .ge 12, 3) := by decide +kernel
theorem dX10_node_12 : decode cX10_node 12 = .ok (.iload_n 2, 1) := by decide +kernel
theorem dX10_node_13 : decode cX10_node 13 = .ok (.ifCond .lt 8, 3) := by decide +kernel
theorem dX10_node_16 : decode cX10_node 16 = .ok (.iload_n 2, 1) := by decide +kernel
theorem dX10_node_17 : decode cX10_node 17 = .ok (.iconst 3, 1) := by decide +kernel
theorem dX10_node_18 : decode cX10_node 18 = .ok (.if_icmp .le 6, 3) := by decide +kernel
theorem dX10_node_21 : decode cX10_node 21 = .ok (.bipush (-2), 2) := by decide +kernel
theorem dX10_node_23 : decode cX10_node 23 = .ok (.ireturn, 1) := by decide +kernel
theorem dX10_node_24 : decode cX10_node 24 = .ok (.iload_n 2, 1) := by decide +kernel
theorem dX10_node_25 : decode cX10_node 25 = .ok (.ifCond .ne 12, 3) := by decide +kernel
theorem dX10_node_28 : decode cX10_node 28 = .ok (.aload_n 0, 1) := by decide +kernel
theorem dX10_node_29 : decode cX10_node 29 = .ok (.getfield 66, 3) := by decide +kernel
theorem dX10_node_32 : decode cX10_node 32 = .ok (.iload_n 1, 1) := by decide +kernel
theorem dX10_node_33 : decode cX10_node 33 = .ok (.iaload, 1) := by decide +kernel
theorem dX10_node_34 : decode cX10_node 34 = .ok (.goto 37, 3) := by decide +kernel
theorem dX10_node_37 : decode cX10_node 37 = .ok (.iload_n 2, 1) := by decide +kernel
theorem dX10_node_38 : decode cX10_node 38 = .ok (.iconst 1, 1) := by decide +kernel
theorem dX10_node_39 : decode cX10_node 39 = .ok (.if_icmp .ne 12, 3) := by decide +kernel
theorem dX10_node_42 : decode cX10_node 42 = .ok (.aload_n 0, 1) := by decide +kernel
theorem dX10_node_43 : decode cX10_node 43 = .ok (.getfield 69, 3) := by decide +kernel
theorem dX10_node_46 : decode cX10_node 46 = .ok (.iload_n 1, 1) := by decide +kernel
theorem dX10_node_47 : decode cX10_node 47 = .ok (.iaload, 1) := by decide +kernel
theorem dX10_node_48 : decode cX10_node 48 = .ok (.goto 23, 3) := by decide +kernel
theorem dX10_node_51 : decode cX10_node 51 = .ok (.iload_n 2, 1) := by decide +kernel
theorem dX10_node_52 : decode cX10_node 52 = .ok (.iconst 2, 1) := by decide +kernel
theorem dX10_node_53 : decode cX10_node 53 = .ok (.if_icmp .ne 12, 3) := by decide +kernel
theorem dX10_node_56 : decode cX10_node 56 = .ok (.aload_n 0, 1) := by decide +kernel
theorem dX10_node_57 : decode cX10_node 57 = .ok (.getfield 72, 3) := by decide +kernel
theorem dX10_node_60 : decode cX10_node 60 = .ok (.iload_n 1, 1) := by decide +kernel
theorem dX10_node_61 : decode cX10_node 61 = .ok (.iaload, 1) := by decide +kernel
theorem dX10_node_62 : decode cX10_node 62 = .ok (.goto 9, 3) := by decide +kernel
theorem dX10_node_65 : decode cX10_node 65 = .ok (.aload_n 0, 1) := by decide +kernel
theorem dX10_node_66 : decode cX10_node 66 = .ok (.getfield 75, 3) := by decide +kernel
theorem dX10_node_69 : decode cX10_node 69 = .ok (.iload_n 1, 1) := by decide +kernel
theorem dX10_node_70 : decode cX10_node 70 = .ok (.iaload, 1) := by decide +kernel
theorem dX10_node_71 : decode cX10_node 71 = .ok (.ireturn, 1) := by decide +kernel
abbrev rmX10_node : Room := { frames := 0, cells := 0, slots := 0, locals := 0 }
theorem yd_X10_node : yX10_node.cls = RX10 ∧ yX10_node.cls ≠ "java/lang/invoke/MethodHandle" ∧ yX10_node.cls ≠ "java/lang/invoke/VarHandle" ∧ (parseMethodDescriptor yX10_node.desc).map (fun d => d.parameters.length) = some 2 := by decide +kernel
def fX10_node_J21 (r : RS) : Option (Int32) :=
  some (-2 : Int32)
def fX10_node (r : RS) (a1 : Int32) (a2 : Int32) : Option (Int32) :=
  if a1 < 0 then
    fX10_node_J21 r
  else
    if (r.1 5) ≤ a1 then
      fX10_node_J21 r
    else
      if a2 < 0 then
        fX10_node_J21 r
      else
        if a2 ≤ (3 : Int32) then
          if a2 = 0 then
            (aI 512 (r.2.1 16) a1).bind fun v4 =>
            some v4
          else
            if a2 = (1 : Int32) then
              (aI 512 (r.2.1 17) a1).bind fun v3 =>
              some v3
            else
              if a2 = (2 : Int32) then
                (aI 512 (r.2.1 18) a1).bind fun v2 =>
                some v2
              else
                (aI 512 (r.2.1 19) a1).bind fun v1 =>
                some v1
        else
          fX10_node_J21 r
set_option maxHeartbeats 4000000 in
set_option maxRecDepth 100000 in
theorem tX10_node (κ : KK) (l : Launch) (o : Nat) (r : RS) (a1 : Int32) (a2 : Int32) (q : Int32) (h : fX10_node r a1 a2 = some q) : MM κ l yX10_node cX10_node 3 (some .int) rmX10_node (RA o) [.ref o, .int a1, .int a2] (RB κ o r) (some (Value.int q)) (RB κ o r) := by
  refine MM.of (by decide +kernel) (Nat.le_of_ble_eq_true rfl) ?_
  intro p e s m below meth c C hnm
  have J21 : fX10_node_J21 r = some q → GR κ p l e s m ([.ref o, .int a1, .int a2] : List Value).toArray below meth c rmX10_node 3 o (some (Value.int q)) (RB κ o r) r 21 [] [] := by
    intro  h
    unfold fX10_node_J21 at h
    refine G_bipush (pc' := 23) (v := (-2 : Int32)) C dX10_node_21 (by decide) rfl ?_
    obtain rfl := Option.some.inj h
    exact G_iret C dX10_node_23 (fun _ h => h)
  unfold fX10_node at h
  refine G_sub (lv' := [(0, .ref o), (1, .int a1), (2, .int a2)]) [0, 1, 2] rfl ?_
  refine G_iload_n (pc' := 1) C dX10_node_0 1 rfl rfl ?_
  refine G_if_lt (tgt := 21) (pc' := 4) C dX10_node_1 (by decide) rfl (fun hc => ?_) (fun hc => ?_)
  · replace h := z_ip hc h
    exact G_sub [] rfl (J21  h)
  · replace h := z_in hc h
    refine G_iload_n (pc' := 5) C dX10_node_4 1 rfl rfl ?_
    refine G_aload_n (pc' := 6) C dX10_node_5 0 rfl rfl ?_
    refine R_g_nodes (pc' := 9) C dX10_node_6 rfl ?_
    refine G_icmp_ge (tgt := 21) (pc' := 12) C dX10_node_9 (by decide) rfl (fun hc => ?_) (fun hc => ?_)
    · replace h := z_ip hc h
      exact G_sub [] rfl (J21  h)
    · replace h := z_in hc h
      refine G_iload_n (pc' := 13) C dX10_node_12 2 rfl rfl ?_
      refine G_if_lt (tgt := 21) (pc' := 16) C dX10_node_13 (by decide) rfl (fun hc => ?_) (fun hc => ?_)
      · replace h := z_ip hc h
        exact G_sub [] rfl (J21  h)
      · replace h := z_in hc h
        refine G_iload_n (pc' := 17) C dX10_node_16 2 rfl rfl ?_
        refine G_iconst (pc' := 18) (v := (3 : Int32)) C dX10_node_17 (by decide) rfl ?_
        refine G_icmp_le (tgt := 24) (pc' := 21) C dX10_node_18 (by decide) rfl (fun hc => ?_) (fun hc => ?_)
        · replace h := z_ip hc h
          refine G_iload_n (pc' := 25) C dX10_node_24 2 rfl rfl ?_
          refine G_if_ne (tgt := 37) (pc' := 28) C dX10_node_25 (by decide) rfl (fun hc => ?_) (fun hc => ?_)
          · replace h := z_in hc h
            refine G_iload_n (pc' := 38) C dX10_node_37 2 rfl rfl ?_
            refine G_iconst (pc' := 39) (v := (1 : Int32)) C dX10_node_38 (by decide) rfl ?_
            refine G_icmp_ne (tgt := 51) (pc' := 42) C dX10_node_39 (by decide) rfl (fun hc => ?_) (fun hc => ?_)
            · replace h := z_in hc h
              refine G_iload_n (pc' := 52) C dX10_node_51 2 rfl rfl ?_
              refine G_iconst (pc' := 53) (v := (2 : Int32)) C dX10_node_52 (by decide) rfl ?_
              refine G_icmp_ne (tgt := 65) (pc' := 56) C dX10_node_53 (by decide) rfl (fun hc => ?_) (fun hc => ?_)
              · replace h := z_in hc h
                refine G_aload_n (pc' := 66) C dX10_node_65 0 rfl rfl ?_
                refine R_g_nodeOne (pc' := 69) C dX10_node_66 rfl ?_
                refine G_iload_n (pc' := 70) C dX10_node_69 1 rfl rfl ?_
                obtain ⟨v1, hv1, h⟩ := ob h
                refine R_l_nodeOne (pc' := 71) C dX10_node_70 hv1 rfl ?_
                obtain rfl := Option.some.inj h
                exact G_iret C dX10_node_71 (fun _ h => h)
              · replace h := z_ip hc h
                refine G_aload_n (pc' := 57) C dX10_node_56 0 rfl rfl ?_
                refine R_g_nodeZero (pc' := 60) C dX10_node_57 rfl ?_
                refine G_iload_n (pc' := 61) C dX10_node_60 1 rfl rfl ?_
                obtain ⟨v2, hv2, h⟩ := ob h
                refine R_l_nodeZero (pc' := 62) C dX10_node_61 hv2 rfl ?_
                refine G_goto (tgt := 71) C dX10_node_62 (by decide) ?_
                obtain rfl := Option.some.inj h
                exact G_iret C dX10_node_71 (fun _ h => h)
            · replace h := z_ip hc h
              refine G_aload_n (pc' := 43) C dX10_node_42 0 rfl rfl ?_
              refine R_g_nodeLooks (pc' := 46) C dX10_node_43 rfl ?_
              refine G_iload_n (pc' := 47) C dX10_node_46 1 rfl rfl ?_
              obtain ⟨v3, hv3, h⟩ := ob h
              refine R_l_nodeLooks (pc' := 48) C dX10_node_47 hv3 rfl ?_
              refine G_goto (tgt := 71) C dX10_node_48 (by decide) ?_
              obtain rfl := Option.some.inj h
              exact G_iret C dX10_node_71 (fun _ h => h)
          · replace h := z_ip hc h
            refine G_aload_n (pc' := 29) C dX10_node_28 0 rfl rfl ?_
            refine R_g_nodeSays (pc' := 32) C dX10_node_29 rfl ?_
            refine G_iload_n (pc' := 33) C dX10_node_32 1 rfl rfl ?_
            obtain ⟨v4, hv4, h⟩ := ob h
            refine R_l_nodeSays (pc' := 34) C dX10_node_33 hv4 rfl ?_
            refine G_goto (tgt := 71) C dX10_node_34 (by decide) ?_
            obtain rfl := Option.some.inj h
            exact G_iret C dX10_node_71 (fun _ h => h)
        · replace h := z_in hc h
          exact G_sub [] rfl (J21  h)
theorem dX10_run_0 : decode cX10_run 0 = .ok (.aload_n 0, 1) := by decide +kernel
theorem dX10_run_1 : decode cX10_run 1 = .ok (.getfield 193, 3) := by decide +kernel
theorem dX10_run_4 : decode cX10_run 4 = .ok (.ifCond .eq 14, 3) := by decide +kernel
theorem dX10_run_7 : decode cX10_run 7 = .ok (.iload_n 1, 1) := by decide +kernel
theorem dX10_run_8 : decode cX10_run 8 = .ok (.ifCond .lt 10, 3) := by decide +kernel
theorem dX10_run_11 : decode cX10_run 11 = .ok (.iload_n 1, 1) := by decide +kernel
theorem dX10_run_12 : decode cX10_run 12 = .ok (.sipush 256, 3) := by decide +kernel
theorem dX10_run_15 : decode cX10_run 15 = .ok (.if_icmp .lt 6, 3) := by decide +kernel
theorem dX10_run_18 : decode cX10_run 18 = .ok (.bipush (-2), 2) := by decide +kernel
theorem dX10_run_20 : decode cX10_run 20 = .ok (.ireturn, 1) := by decide +kernel
theorem dX10_run_21 : decode cX10_run 21 = .ok (.iconst 0, 1) := by decide +kernel
theorem dX10_run_22 : decode cX10_run 22 = .ok (.istore_n 2, 1) := by decide +kernel
theorem dX10_run_23 : decode cX10_run 23 = .ok (.aload_n 0, 1) := by decide +kernel
theorem dX10_run_24 : decode cX10_run 24 = .ok (.getfield 66, 3) := by decide +kernel
theorem dX10_run_27 : decode cX10_run 27 = .ok (.iload_n 2, 1) := by decide +kernel
theorem dX10_run_28 : decode cX10_run 28 = .ok (.iaload, 1) := by decide +kernel
theorem dX10_run_29 : decode cX10_run 29 = .ok (.bipush 20, 2) := by decide +kernel
theorem dX10_run_31 : decode cX10_run 31 = .ok (.if_icmp .ge 35, 3) := by decide +kernel
theorem dX10_run_34 : decode cX10_run 34 = .ok (.iload_n 1, 1) := by decide +kernel
theorem dX10_run_35 : decode cX10_run 35 = .ok (.aload_n 0, 1) := by decide +kernel
theorem dX10_run_36 : decode cX10_run 36 = .ok (.getfield 66, 3) := by decide +kernel
theorem dX10_run_39 : decode cX10_run 39 = .ok (.iload_n 2, 1) := by decide +kernel
theorem dX10_run_40 : decode cX10_run 40 = .ok (.iaload, 1) := by decide +kernel
theorem dX10_run_41 : decode cX10_run 41 = .ok (.ishr, 1) := by decide +kernel
theorem dX10_run_42 : decode cX10_run 42 = .ok (.iconst 1, 1) := by decide +kernel
theorem dX10_run_43 : decode cX10_run 43 = .ok (.iand, 1) := by decide +kernel
theorem dX10_run_44 : decode cX10_run 44 = .ok (.ifCond .ne 12, 3) := by decide +kernel
theorem dX10_run_47 : decode cX10_run 47 = .ok (.aload_n 0, 1) := by decide +kernel
theorem dX10_run_48 : decode cX10_run 48 = .ok (.getfield 72, 3) := by decide +kernel
theorem dX10_run_51 : decode cX10_run 51 = .ok (.iload_n 2, 1) := by decide +kernel
theorem dX10_run_52 : decode cX10_run 52 = .ok (.iaload, 1) := by decide +kernel
theorem dX10_run_53 : decode cX10_run 53 = .ok (.goto 9, 3) := by decide +kernel
theorem dX10_run_56 : decode cX10_run 56 = .ok (.aload_n 0, 1) := by decide +kernel
theorem dX10_run_57 : decode cX10_run 57 = .ok (.getfield 75, 3) := by decide +kernel
theorem dX10_run_60 : decode cX10_run 60 = .ok (.iload_n 2, 1) := by decide +kernel
theorem dX10_run_61 : decode cX10_run 61 = .ok (.iaload, 1) := by decide +kernel
theorem dX10_run_62 : decode cX10_run 62 = .ok (.istore_n 2, 1) := by decide +kernel
theorem dX10_run_63 : decode cX10_run 63 = .ok (.goto (-40), 3) := by decide +kernel
theorem dX10_run_66 : decode cX10_run 66 = .ok (.bipush 10, 2) := by decide +kernel
theorem dX10_run_68 : decode cX10_run 68 = .ok (.aload_n 0, 1) := by decide +kernel
theorem dX10_run_69 : decode cX10_run 69 = .ok (.getfield 69, 3) := by decide +kernel
theorem dX10_run_72 : decode cX10_run 72 = .ok (.iload_n 2, 1) := by decide +kernel
theorem dX10_run_73 : decode cX10_run 73 = .ok (.iaload, 1) := by decide +kernel
theorem dX10_run_74 : decode cX10_run 74 = .ok (.imul, 1) := by decide +kernel
theorem dX10_run_75 : decode cX10_run 75 = .ok (.aload_n 0, 1) := by decide +kernel
theorem dX10_run_76 : decode cX10_run 76 = .ok (.getfield 66, 3) := by decide +kernel
theorem dX10_run_79 : decode cX10_run 79 = .ok (.iload_n 2, 1) := by decide +kernel
theorem dX10_run_80 : decode cX10_run 80 = .ok (.iaload, 1) := by decide +kernel
theorem dX10_run_81 : decode cX10_run 81 = .ok (.iadd, 1) := by decide +kernel
theorem dX10_run_82 : decode cX10_run 82 = .ok (.bipush 20, 2) := by decide +kernel
theorem dX10_run_84 : decode cX10_run 84 = .ok (.isub, 1) := by decide +kernel
theorem dX10_run_85 : decode cX10_run 85 = .ok (.ireturn, 1) := by decide +kernel
abbrev rmX10_run : Room := { frames := 0, cells := 0, slots := 0, locals := 0 }
theorem yd_X10_run : yX10_run.cls = RX10 ∧ yX10_run.cls ≠ "java/lang/invoke/MethodHandle" ∧ yX10_run.cls ≠ "java/lang/invoke/VarHandle" ∧ (parseMethodDescriptor yX10_run.desc).map (fun d => d.parameters.length) = some 1 := by decide +kernel
def fX10_run_L23_J62 (r : RS) (l1 : Int32) (s0 : Int32) : Option (Int32 ⊕ Int32) :=
  some (.inl s0)
def fX10_run_L23 (r : RS) (l1 : Int32) (l2 : Int32) : Option (Int32 ⊕ Int32) :=
  (aI 512 (r.2.1 16) l2).bind fun v1 =>
  if (20 : Int32) ≤ v1 then
    some (.inr l2)
  else
    (aI 512 (r.2.1 16) l2).bind fun v2 =>
    if ((l1 >>> (v2 &&& 31)) &&& (1 : Int32)) = 0 then
      (aI 512 (r.2.1 18) l2).bind fun v4 =>
      fX10_run_L23_J62 r l1 v4
    else
      (aI 512 (r.2.1 19) l2).bind fun v3 =>
      fX10_run_L23_J62 r l1 v3
def fX10_run_J18 (r : RS) : Option (Int32) :=
  some (-2 : Int32)
def fX10_run (r : RS) (a1 : Int32) : Option (Int32) :=
  if (r.1 5) = 0 then
    fX10_run_J18 r
  else
    if a1 < 0 then
      fX10_run_J18 r
    else
      if a1 < (256 : Int32) then
        (lpN (fun u => fX10_run_L23 r a1 u) bigN (0 : Int32)).bind fun e5 =>
        (aI 512 (r.2.1 17) e5).bind fun v6 =>
        (aI 512 (r.2.1 16) e5).bind fun v7 =>
        some ((((10 : Int32) * v6) + v7) - (20 : Int32))
      else
        fX10_run_J18 r
set_option maxHeartbeats 4000000 in
set_option maxRecDepth 100000 in
theorem tX10_run_L23 {κ : KK} {p : Program} {l : Launch} {e : Env} {s : State} {m : MethodId} {args : Array Value} {below : List Frame} {meth : Method} {c : Code} (C : Cx κ p s m args meth c cX10_run 3 RX10 (some .int)) {o : Nat} {v : Option Value} {B' : Heap → Prop} {r : RS} {l1 : Int32} {l2 : Int32} {y : Int32 ⊕ Int32} (h : fX10_run_L23 r l1 l2 = some y) (kc : ∀ u, y = .inl u → GR κ p l e s m args below meth c rmX10_run 3 o v B' r 23 [(0, .ref o), (1, .int l1), (2, .int u)] []) (kx : ∀ w, y = .inr w → GR κ p l e s m args below meth c rmX10_run 3 o v B' r 66 [(0, .ref o), (2, .int w)] []) : GR κ p l e s m args below meth c rmX10_run 3 o v B' r 23 [(0, .ref o), (1, .int l1), (2, .int l2)] [] := by
  have J62 : ∀ (s0 : Int32), fX10_run_L23_J62 r l1 s0 = some y → GR κ p l e s m args below meth c rmX10_run 3 o v B' r 62 [(0, .ref o), (1, .int l1)] [.int s0] := by
    intro s0 h
    unfold fX10_run_L23_J62 at h
    refine G_istore_n (pc' := 63) C dX10_run_62 [(2, .int s0), (0, .ref o), (1, .int l1)] (by decide) rfl rfl ?_
    refine G_goto (tgt := 23) C dX10_run_63 (by decide) ?_
    exact G_sub [1, 2, 0] rfl (kc _ (Option.some.inj h).symm)
  unfold fX10_run_L23 at h
  refine G_aload_n (pc' := 24) C dX10_run_23 0 rfl rfl ?_
  refine R_g_nodeSays (pc' := 27) C dX10_run_24 rfl ?_
  refine G_iload_n (pc' := 28) C dX10_run_27 2 rfl rfl ?_
  obtain ⟨v1, hv1, h⟩ := ob h
  refine R_l_nodeSays (pc' := 29) C dX10_run_28 hv1 rfl ?_
  refine G_bipush (pc' := 31) (v := (20 : Int32)) C dX10_run_29 (by decide) rfl ?_
  refine G_icmp_ge (tgt := 66) (pc' := 34) C dX10_run_31 (by decide) rfl (fun hc => ?_) (fun hc => ?_)
  · replace h := z_ip hc h
    exact G_sub [0, 2] rfl (kx _ (Option.some.inj h).symm)
  · replace h := z_in hc h
    refine G_iload_n (pc' := 35) C dX10_run_34 1 rfl rfl ?_
    refine G_aload_n (pc' := 36) C dX10_run_35 0 rfl rfl ?_
    refine R_g_nodeSays (pc' := 39) C dX10_run_36 rfl ?_
    refine G_iload_n (pc' := 40) C dX10_run_39 2 rfl rfl ?_
    obtain ⟨v2, hv2, h⟩ := ob h
    refine R_l_nodeSays (pc' := 41) C dX10_run_40 hv2 rfl ?_
    refine G_ishr (pc' := 42) C dX10_run_41 rfl ?_
    refine G_iconst (pc' := 43) (v := (1 : Int32)) C dX10_run_42 (by decide) rfl ?_
    refine G_iand (pc' := 44) C dX10_run_43 rfl ?_
    refine G_if_ne (tgt := 56) (pc' := 47) C dX10_run_44 (by decide) rfl (fun hc => ?_) (fun hc => ?_)
    · replace h := z_in hc h
      refine G_aload_n (pc' := 57) C dX10_run_56 0 rfl rfl ?_
      refine R_g_nodeOne (pc' := 60) C dX10_run_57 rfl ?_
      refine G_iload_n (pc' := 61) C dX10_run_60 2 rfl rfl ?_
      obtain ⟨v3, hv3, h⟩ := ob h
      refine R_l_nodeOne (pc' := 62) C dX10_run_61 hv3 rfl ?_
      exact G_sub [0, 1] rfl (J62 v3 h)
    · replace h := z_ip hc h
      refine G_aload_n (pc' := 48) C dX10_run_47 0 rfl rfl ?_
      refine R_g_nodeZero (pc' := 51) C dX10_run_48 rfl ?_
      refine G_iload_n (pc' := 52) C dX10_run_51 2 rfl rfl ?_
      obtain ⟨v4, hv4, h⟩ := ob h
      refine R_l_nodeZero (pc' := 53) C dX10_run_52 hv4 rfl ?_
      refine G_goto (tgt := 62) C dX10_run_53 (by decide) ?_
      exact G_sub [0, 1] rfl (J62 v4 h)
set_option maxHeartbeats 4000000 in
set_option maxRecDepth 100000 in
theorem tX10_run (κ : KK) (l : Launch) (o : Nat) (r : RS) (a1 : Int32) (q : Int32) (h : fX10_run r a1 = some q) : MM κ l yX10_run cX10_run 3 (some .int) rmX10_run (RA o) [.ref o, .int a1] (RB κ o r) (some (Value.int q)) (RB κ o r) := by
  refine MM.of (by decide +kernel) (Nat.le_of_ble_eq_true rfl) ?_
  intro p e s m below meth c C hnm
  have J18 : fX10_run_J18 r = some q → GR κ p l e s m ([.ref o, .int a1] : List Value).toArray below meth c rmX10_run 3 o (some (Value.int q)) (RB κ o r) r 18 [] [] := by
    intro  h
    unfold fX10_run_J18 at h
    refine G_bipush (pc' := 20) (v := (-2 : Int32)) C dX10_run_18 (by decide) rfl ?_
    obtain rfl := Option.some.inj h
    exact G_iret C dX10_run_20 (fun _ h => h)
  unfold fX10_run at h
  refine G_sub (lv' := [(0, .ref o), (1, .int a1)]) [0, 1] rfl ?_
  refine G_aload_n (pc' := 1) C dX10_run_0 0 rfl rfl ?_
  refine R_g_nodes (pc' := 4) C dX10_run_1 rfl ?_
  refine G_if_eq (tgt := 18) (pc' := 7) C dX10_run_4 (by decide) rfl (fun hc => ?_) (fun hc => ?_)
  · replace h := z_ip hc h
    exact G_sub [] rfl (J18  h)
  · replace h := z_in hc h
    refine G_iload_n (pc' := 8) C dX10_run_7 1 rfl rfl ?_
    refine G_if_lt (tgt := 18) (pc' := 11) C dX10_run_8 (by decide) rfl (fun hc => ?_) (fun hc => ?_)
    · replace h := z_ip hc h
      exact G_sub [] rfl (J18  h)
    · replace h := z_in hc h
      refine G_iload_n (pc' := 12) C dX10_run_11 1 rfl rfl ?_
      refine G_sipush (pc' := 15) (v := (256 : Int32)) C dX10_run_12 (by decide) rfl ?_
      refine G_icmp_lt (tgt := 21) (pc' := 18) C dX10_run_15 (by decide) rfl (fun hc => ?_) (fun hc => ?_)
      · replace h := z_ip hc h
        refine G_iconst (pc' := 22) (v := (0 : Int32)) C dX10_run_21 (by decide) rfl ?_
        refine G_istore_n (pc' := 23) C dX10_run_22 [(2, .int (0 : Int32)), (0, .ref o), (1, .int a1)] (by decide) rfl rfl ?_
        obtain ⟨e5, hle5, h⟩ := ob h
        refine G_sub (lv' := [(0, .ref o), (1, .int a1), (2, .int (0 : Int32))]) [1, 2, 0] rfl ?_
        refine lpN_ind (body := fun u => fX10_run_L23 r a1 u) (P := fun u => GR κ p l e s m ([.ref o, .int a1] : List Value).toArray below meth c rmX10_run 3 o (some (Value.int q)) (RB κ o r) r 23 [(0, .ref o), (1, .int a1), (2, .int u)] []) (X := fun w => GR κ p l e s m ([.ref o, .int a1] : List Value).toArray below meth c rmX10_run 3 o (some (Value.int q)) (RB κ o r) r 66 [(0, .ref o), (2, .int w)] []) (fun u y hb kc kx => tX10_run_L23 C hb kc kx) _ _ _ hle5 ?_
        refine G_bipush (pc' := 68) (v := (10 : Int32)) C dX10_run_66 (by decide) rfl ?_
        refine G_aload_n (pc' := 69) C dX10_run_68 0 rfl rfl ?_
        refine R_g_nodeLooks (pc' := 72) C dX10_run_69 rfl ?_
        refine G_iload_n (pc' := 73) C dX10_run_72 1 rfl rfl ?_
        obtain ⟨v6, hv6, h⟩ := ob h
        refine R_l_nodeLooks (pc' := 74) C dX10_run_73 hv6 rfl ?_
        refine G_imul (pc' := 75) C dX10_run_74 rfl ?_
        refine G_aload_n (pc' := 76) C dX10_run_75 0 rfl rfl ?_
        refine R_g_nodeSays (pc' := 79) C dX10_run_76 rfl ?_
        refine G_iload_n (pc' := 80) C dX10_run_79 1 rfl rfl ?_
        obtain ⟨v7, hv7, h⟩ := ob h
        refine R_l_nodeSays (pc' := 81) C dX10_run_80 hv7 rfl ?_
        refine G_iadd (pc' := 82) C dX10_run_81 rfl ?_
        refine G_bipush (pc' := 84) (v := (20 : Int32)) C dX10_run_82 (by decide) rfl ?_
        refine G_isub (pc' := 85) C dX10_run_84 rfl ?_
        obtain rfl := Option.some.inj h
        exact G_iret C dX10_run_85 (fun _ h => h)
      · replace h := z_in hc h
        exact G_sub [] rfl (J18  h)
theorem dX10_behind_0 : decode cX10_behind 0 = .ok (.iconst 1, 1) := by decide +kernel
theorem dX10_behind_1 : decode cX10_behind 1 = .ok (.istore_n 3, 1) := by decide +kernel
theorem dX10_behind_2 : decode cX10_behind 2 = .ok (.iload_n 1, 1) := by decide +kernel
theorem dX10_behind_3 : decode cX10_behind 3 = .ok (.istore 4, 2) := by decide +kernel
theorem dX10_behind_5 : decode cX10_behind 5 = .ok (.iload_n 3, 1) := by decide +kernel
theorem dX10_behind_6 : decode cX10_behind 6 = .ok (.ifCond .le 35, 3) := by decide +kernel
theorem dX10_behind_9 : decode cX10_behind 9 = .ok (.iload 4, 2) := by decide +kernel
theorem dX10_behind_11 : decode cX10_behind 11 = .ok (.iload_n 2, 1) := by decide +kernel
theorem dX10_behind_12 : decode cX10_behind 12 = .ok (.if_icmp .ge 29, 3) := by decide +kernel
theorem dX10_behind_15 : decode cX10_behind 15 = .ok (.iload_n 3, 1) := by decide +kernel
theorem dX10_behind_16 : decode cX10_behind 16 = .ok (.aload_n 0, 1) := by decide +kernel
theorem dX10_behind_17 : decode cX10_behind 17 = .ok (.getfield 32, 3) := by decide +kernel
theorem dX10_behind_20 : decode cX10_behind 20 = .ok (.iload 4, 2) := by decide +kernel
theorem dX10_behind_22 : decode cX10_behind 22 = .ok (.iaload, 1) := by decide +kernel
theorem dX10_behind_23 : decode cX10_behind 23 = .ok (.bipush 8, 2) := by decide +kernel
theorem dX10_behind_25 : decode cX10_behind 25 = .ok (.if_icmp .ge 7, 3) := by decide +kernel
theorem dX10_behind_28 : decode cX10_behind 28 = .ok (.iconst 1, 1) := by decide +kernel
theorem dX10_behind_29 : decode cX10_behind 29 = .ok (.goto 4, 3) := by decide +kernel
theorem dX10_behind_32 : decode cX10_behind 32 = .ok (.iconst (-1), 1) := by decide +kernel
theorem dX10_behind_33 : decode cX10_behind 33 = .ok (.iadd, 1) := by decide +kernel
theorem dX10_behind_34 : decode cX10_behind 34 = .ok (.istore_n 3, 1) := by decide +kernel
theorem dX10_behind_35 : decode cX10_behind 35 = .ok (.iinc 4 1, 3) := by decide +kernel
theorem dX10_behind_38 : decode cX10_behind 38 = .ok (.goto (-33), 3) := by decide +kernel
theorem dX10_behind_41 : decode cX10_behind 41 = .ok (.iload_n 3, 1) := by decide +kernel
theorem dX10_behind_42 : decode cX10_behind 42 = .ok (.ifCond .le 9, 3) := by decide +kernel
theorem dX10_behind_45 : decode cX10_behind 45 = .ok (.iload_n 2, 1) := by decide +kernel
theorem dX10_behind_46 : decode cX10_behind 46 = .ok (.iconst 1, 1) := by decide +kernel
theorem dX10_behind_47 : decode cX10_behind 47 = .ok (.iadd, 1) := by decide +kernel
theorem dX10_behind_48 : decode cX10_behind 48 = .ok (.goto 5, 3) := by decide +kernel
theorem dX10_behind_51 : decode cX10_behind 51 = .ok (.iload 4, 2) := by decide +kernel
theorem dX10_behind_53 : decode cX10_behind 53 = .ok (.ireturn, 1) := by decide +kernel
abbrev rmX10_behind : Room := { frames := 0, cells := 0, slots := 0, locals := 0 }
theorem yd_X10_behind : yX10_behind.cls = RX10 ∧ yX10_behind.cls ≠ "java/lang/invoke/MethodHandle" ∧ yX10_behind.cls ≠ "java/lang/invoke/VarHandle" ∧ (parseMethodDescriptor yX10_behind.desc).map (fun d => d.parameters.length) = some 2 := by decide +kernel
def fX10_behind_L5_J33 (r : RS) (l2 : Int32) (l4 : Int32) (s0 : Int32) (s1 : Int32) : Option ((Int32 × Int32) ⊕ (Int32 × Int32)) :=
  some (.inl ((s1 + s0), (l4 + (1 : Int32))))
def fX10_behind_L5 (r : RS) (l2 : Int32) (l3 : Int32) (l4 : Int32) : Option ((Int32 × Int32) ⊕ (Int32 × Int32)) :=
  if l3 ≤ 0 then
    some (.inr (l3, l4))
  else
    if l2 ≤ l4 then
      some (.inr (l3, l4))
    else
      (aI 100 (r.2.1 7) l4).bind fun v1 =>
      if (8 : Int32) ≤ v1 then
        fX10_behind_L5_J33 r l2 l4 (-1 : Int32) l3
      else
        fX10_behind_L5_J33 r l2 l4 (1 : Int32) l3
def fX10_behind (r : RS) (a1 : Int32) (a2 : Int32) : Option (Int32) :=
  (lpN (fun u => fX10_behind_L5 r a2 u.1 u.2) bigN ((1 : Int32), a1)).bind fun e2 =>
  if e2.1 ≤ 0 then
    some e2.2
  else
    some (a2 + (1 : Int32))
set_option maxHeartbeats 4000000 in
set_option maxRecDepth 100000 in
theorem tX10_behind_L5 {κ : KK} {p : Program} {l : Launch} {e : Env} {s : State} {m : MethodId} {args : Array Value} {below : List Frame} {meth : Method} {c : Code} (C : Cx κ p s m args meth c cX10_behind 5 RX10 (some .int)) {o : Nat} {v : Option Value} {B' : Heap → Prop} {r : RS} {l2 : Int32} {l3 : Int32} {l4 : Int32} {y : (Int32 × Int32) ⊕ (Int32 × Int32)} (h : fX10_behind_L5 r l2 l3 l4 = some y) (kc : ∀ u, y = .inl u → GR κ p l e s m args below meth c rmX10_behind 5 o v B' r 5 [(0, .ref o), (2, .int l2), (3, .int u.1), (4, .int u.2)] []) (kx : ∀ w, y = .inr w → GR κ p l e s m args below meth c rmX10_behind 5 o v B' r 41 [(2, .int l2), (3, .int w.1), (4, .int w.2)] []) : GR κ p l e s m args below meth c rmX10_behind 5 o v B' r 5 [(0, .ref o), (2, .int l2), (3, .int l3), (4, .int l4)] [] := by
  have J33 : ∀ (l4 : Int32) (s0 : Int32) (s1 : Int32), fX10_behind_L5_J33 r l2 l4 s0 s1 = some y → GR κ p l e s m args below meth c rmX10_behind 5 o v B' r 33 [(0, .ref o), (2, .int l2), (4, .int l4)] [.int s0, .int s1] := by
    intro l4 s0 s1 h
    unfold fX10_behind_L5_J33 at h
    refine G_iadd (pc' := 34) C dX10_behind_33 rfl ?_
    refine G_istore_n (pc' := 35) C dX10_behind_34 [(3, .int (s1 + s0)), (0, .ref o), (2, .int l2), (4, .int l4)] (by decide) rfl rfl ?_
    refine G_iinc (pc' := 38) C dX10_behind_35 3 rfl rfl [(4, .int (l4 + (1 : Int32))), (3, .int (s1 + s0)), (0, .ref o), (2, .int l2)] (by decide) rfl rfl ?_
    refine G_goto (tgt := 5) C dX10_behind_38 (by decide) ?_
    exact G_sub [2, 3, 1, 0] rfl (kc _ (Option.some.inj h).symm)
  unfold fX10_behind_L5 at h
  refine G_iload_n (pc' := 6) C dX10_behind_5 2 rfl rfl ?_
  refine G_if_le (tgt := 41) (pc' := 9) C dX10_behind_6 (by decide) rfl (fun hc => ?_) (fun hc => ?_)
  · replace h := z_ip hc h
    exact G_sub [1, 2, 3] rfl (kx _ (Option.some.inj h).symm)
  · replace h := z_in hc h
    refine G_iload (pc' := 11) C dX10_behind_9 3 rfl rfl ?_
    refine G_iload_n (pc' := 12) C dX10_behind_11 1 rfl rfl ?_
    refine G_icmp_ge (tgt := 41) (pc' := 15) C dX10_behind_12 (by decide) rfl (fun hc => ?_) (fun hc => ?_)
    · replace h := z_ip hc h
      exact G_sub [1, 2, 3] rfl (kx _ (Option.some.inj h).symm)
    · replace h := z_in hc h
      refine G_iload_n (pc' := 16) C dX10_behind_15 2 rfl rfl ?_
      refine G_aload_n (pc' := 17) C dX10_behind_16 0 rfl rfl ?_
      refine R_g_waiting (pc' := 20) C dX10_behind_17 rfl ?_
      refine G_iload (pc' := 22) C dX10_behind_20 3 rfl rfl ?_
      obtain ⟨v1, hv1, h⟩ := ob h
      refine R_l_waiting (pc' := 23) C dX10_behind_22 hv1 rfl ?_
      refine G_bipush (pc' := 25) (v := (8 : Int32)) C dX10_behind_23 (by decide) rfl ?_
      refine G_icmp_ge (tgt := 32) (pc' := 28) C dX10_behind_25 (by decide) rfl (fun hc => ?_) (fun hc => ?_)
      · replace h := z_ip hc h
        refine G_iconst (pc' := 33) (v := (-1 : Int32)) C dX10_behind_32 (by decide) rfl ?_
        exact G_sub [0, 1, 3] rfl (J33 l4 (-1 : Int32) l3 h)
      · replace h := z_in hc h
        refine G_iconst (pc' := 29) (v := (1 : Int32)) C dX10_behind_28 (by decide) rfl ?_
        refine G_goto (tgt := 33) C dX10_behind_29 (by decide) ?_
        exact G_sub [0, 1, 3] rfl (J33 l4 (1 : Int32) l3 h)
set_option maxHeartbeats 4000000 in
set_option maxRecDepth 100000 in
theorem tX10_behind (κ : KK) (l : Launch) (o : Nat) (r : RS) (a1 : Int32) (a2 : Int32) (q : Int32) (h : fX10_behind r a1 a2 = some q) : MM κ l yX10_behind cX10_behind 5 (some .int) rmX10_behind (RA o) [.ref o, .int a1, .int a2] (RB κ o r) (some (Value.int q)) (RB κ o r) := by
  refine MM.of (by decide +kernel) (Nat.le_of_ble_eq_true rfl) ?_
  intro p e s m below meth c C hnm
  unfold fX10_behind at h
  refine G_sub (lv' := [(0, .ref o), (1, .int a1), (2, .int a2)]) [0, 1, 2] rfl ?_
  refine G_iconst (pc' := 1) (v := (1 : Int32)) C dX10_behind_0 (by decide) rfl ?_
  refine G_istore_n (pc' := 2) C dX10_behind_1 [(3, .int (1 : Int32)), (0, .ref o), (1, .int a1), (2, .int a2)] (by decide) rfl rfl ?_
  refine G_iload_n (pc' := 3) C dX10_behind_2 2 rfl rfl ?_
  refine G_istore (pc' := 5) C dX10_behind_3 [(4, .int a1), (3, .int (1 : Int32)), (0, .ref o), (1, .int a1), (2, .int a2)] (by decide) rfl rfl ?_
  obtain ⟨e2, hle2, h⟩ := ob h
  refine G_sub (lv' := [(0, .ref o), (2, .int a2), (3, .int (1 : Int32)), (4, .int a1)]) [2, 4, 1, 0] rfl ?_
  refine lpN_ind (body := fun u => fX10_behind_L5 r a2 u.1 u.2) (P := fun u => GR κ p l e s m ([.ref o, .int a1, .int a2] : List Value).toArray below meth c rmX10_behind 5 o (some (Value.int q)) (RB κ o r) r 5 [(0, .ref o), (2, .int a2), (3, .int u.1), (4, .int u.2)] []) (X := fun w => GR κ p l e s m ([.ref o, .int a1, .int a2] : List Value).toArray below meth c rmX10_behind 5 o (some (Value.int q)) (RB κ o r) r 41 [(2, .int a2), (3, .int w.1), (4, .int w.2)] []) (fun u y hb kc kx => tX10_behind_L5 C hb kc kx) _ _ _ hle2 ?_
  refine G_iload_n (pc' := 42) C dX10_behind_41 1 rfl rfl ?_
  refine G_if_le (tgt := 51) (pc' := 45) C dX10_behind_42 (by decide) rfl (fun hc => ?_) (fun hc => ?_)
  · replace h := z_ip hc h
    refine G_iload (pc' := 53) C dX10_behind_51 2 rfl rfl ?_
    obtain rfl := Option.some.inj h
    exact G_iret C dX10_behind_53 (fun _ h => h)
  · replace h := z_in hc h
    refine G_iload_n (pc' := 46) C dX10_behind_45 0 rfl rfl ?_
    refine G_iconst (pc' := 47) (v := (1 : Int32)) C dX10_behind_46 (by decide) rfl ?_
    refine G_iadd (pc' := 48) C dX10_behind_47 rfl ?_
    refine G_goto (tgt := 53) C dX10_behind_48 (by decide) ?_
    obtain rfl := Option.some.inj h
    exact G_iret C dX10_behind_53 (fun _ h => h)
theorem dX10_check_0 : decode cX10_check 0 = .ok (.aload_n 0, 1) := by decide +kernel
theorem dX10_check_1 : decode cX10_check 1 = .ok (.getfield 159, 3) := by decide +kernel
theorem dX10_check_4 : decode cX10_check 4 = .ok (.istore_n 2, 1) := by decide +kernel
theorem dX10_check_5 : decode cX10_check 5 = .ok (.aload_n 0, 1) := by decide +kernel
theorem dX10_check_6 : decode cX10_check 6 = .ok (.iconst 0, 1) := by decide +kernel
theorem dX10_check_7 : decode cX10_check 7 = .ok (.putfield 159, 3) := by decide +kernel
theorem dX10_check_10 : decode cX10_check 10 = .ok (.aload_n 0, 1) := by decide +kernel
theorem dX10_check_11 : decode cX10_check 11 = .ok (.iload_n 1, 1) := by decide +kernel
theorem dX10_check_12 : decode cX10_check 12 = .ok (.invokevirtual 127, 3) := by decide +kernel
theorem dX10_check_15 : decode cX10_check 15 = .ok (.istore_n 3, 1) := by decide +kernel
theorem dX10_check_16 : decode cX10_check 16 = .ok (.iload_n 3, 1) := by decide +kernel
theorem dX10_check_17 : decode cX10_check 17 = .ok (.ifCond .eq 9, 3) := by decide +kernel
theorem dX10_check_20 : decode cX10_check 20 = .ok (.aload_n 0, 1) := by decide +kernel
theorem dX10_check_21 : decode cX10_check 21 = .ok (.iload_n 3, 1) := by decide +kernel
theorem dX10_check_22 : decode cX10_check 22 = .ok (.invokevirtual 136, 3) := by decide +kernel
theorem dX10_check_25 : decode cX10_check 25 = .ok (.ireturn, 1) := by decide +kernel
theorem dX10_check_26 : decode cX10_check 26 = .ok (.iconst 1, 1) := by decide +kernel
theorem dX10_check_27 : decode cX10_check 27 = .ok (.istore 4, 2) := by decide +kernel
theorem dX10_check_29 : decode cX10_check 29 = .ok (.iconst 0, 1) := by decide +kernel
theorem dX10_check_30 : decode cX10_check 30 = .ok (.istore 5, 2) := by decide +kernel
theorem dX10_check_32 : decode cX10_check 32 = .ok (.iload 5, 2) := by decide +kernel
theorem dX10_check_34 : decode cX10_check 34 = .ok (.iload_n 2, 1) := by decide +kernel
theorem dX10_check_35 : decode cX10_check 35 = .ok (.if_icmp .ge 69, 3) := by decide +kernel
theorem dX10_check_38 : decode cX10_check 38 = .ok (.iload 4, 2) := by decide +kernel
theorem dX10_check_40 : decode cX10_check 40 = .ok (.aload_n 0, 1) := by decide +kernel
theorem dX10_check_41 : decode cX10_check 41 = .ok (.getfield 32, 3) := by decide +kernel
theorem dX10_check_44 : decode cX10_check 44 = .ok (.iload 5, 2) := by decide +kernel
theorem dX10_check_46 : decode cX10_check 46 = .ok (.iaload, 1) := by decide +kernel
theorem dX10_check_47 : decode cX10_check 47 = .ok (.ifCond .lt 19, 3) := by decide +kernel
theorem dX10_check_50 : decode cX10_check 50 = .ok (.aload_n 0, 1) := by decide +kernel
theorem dX10_check_51 : decode cX10_check 51 = .ok (.getfield 32, 3) := by decide +kernel
theorem dX10_check_54 : decode cX10_check 54 = .ok (.iload 5, 2) := by decide +kernel
theorem dX10_check_56 : decode cX10_check 56 = .ok (.iaload, 1) := by decide +kernel
theorem dX10_check_57 : decode cX10_check 57 = .ok (.aload_n 0, 1) := by decide +kernel
theorem dX10_check_58 : decode cX10_check 58 = .ok (.getfield 7, 3) := by decide +kernel
theorem dX10_check_61 : decode cX10_check 61 = .ok (.iload_n 1, 1) := by decide +kernel
theorem dX10_check_62 : decode cX10_check 62 = .ok (.iaload, 1) := by decide +kernel
theorem dX10_check_63 : decode cX10_check 63 = .ok (.if_icmp .lt 27, 3) := by decide +kernel
theorem dX10_check_66 : decode cX10_check 66 = .ok (.aload_n 0, 1) := by decide +kernel
theorem dX10_check_67 : decode cX10_check 67 = .ok (.getfield 32, 3) := by decide +kernel
theorem dX10_check_70 : decode cX10_check 70 = .ok (.iload 5, 2) := by decide +kernel
theorem dX10_check_72 : decode cX10_check 72 = .ok (.iaload, 1) := by decide +kernel
theorem dX10_check_73 : decode cX10_check 73 = .ok (.bipush 20, 2) := by decide +kernel
theorem dX10_check_75 : decode cX10_check 75 = .ok (.if_icmp .eq 15, 3) := by decide +kernel
theorem dX10_check_78 : decode cX10_check 78 = .ok (.aload_n 0, 1) := by decide +kernel
theorem dX10_check_79 : decode cX10_check 79 = .ok (.getfield 32, 3) := by decide +kernel
theorem dX10_check_82 : decode cX10_check 82 = .ok (.iload 5, 2) := by decide +kernel
theorem dX10_check_84 : decode cX10_check 84 = .ok (.iaload, 1) := by decide +kernel
theorem dX10_check_85 : decode cX10_check 85 = .ok (.bipush 21, 2) := by decide +kernel
theorem dX10_check_87 : decode cX10_check 87 = .ok (.if_icmp .ne 7, 3) := by decide +kernel
theorem dX10_check_90 : decode cX10_check 90 = .ok (.iconst 1, 1) := by decide +kernel
theorem dX10_check_91 : decode cX10_check 91 = .ok (.goto 4, 3) := by decide +kernel
theorem dX10_check_94 : decode cX10_check 94 = .ok (.iconst 0, 1) := by decide +kernel
theorem dX10_check_95 : decode cX10_check 95 = .ok (.iand, 1) := by decide +kernel
theorem dX10_check_96 : decode cX10_check 96 = .ok (.istore 4, 2) := by decide +kernel
theorem dX10_check_98 : decode cX10_check 98 = .ok (.iinc 5 1, 3) := by decide +kernel
theorem dX10_check_101 : decode cX10_check 101 = .ok (.goto (-69), 3) := by decide +kernel
theorem dX10_check_104 : decode cX10_check 104 = .ok (.iload 4, 2) := by decide +kernel
theorem dX10_check_106 : decode cX10_check 106 = .ok (.ifCond .eq 13, 3) := by decide +kernel
theorem dX10_check_109 : decode cX10_check 109 = .ok (.aload_n 0, 1) := by decide +kernel
theorem dX10_check_110 : decode cX10_check 110 = .ok (.iconst 0, 1) := by decide +kernel
theorem dX10_check_111 : decode cX10_check 111 = .ok (.iload_n 2, 1) := by decide +kernel
theorem dX10_check_112 : decode cX10_check 112 = .ok (.invokevirtual 199, 3) := by decide +kernel
theorem dX10_check_115 : decode cX10_check 115 = .ok (.iload_n 2, 1) := by decide +kernel
theorem dX10_check_116 : decode cX10_check 116 = .ok (.if_icmp .eq 6, 3) := by decide +kernel
theorem dX10_check_119 : decode cX10_check 119 = .ok (.bipush (-3), 2) := by decide +kernel
theorem dX10_check_121 : decode cX10_check 121 = .ok (.ireturn, 1) := by decide +kernel
theorem dX10_check_122 : decode cX10_check 122 = .ok (.iconst 0, 1) := by decide +kernel
theorem dX10_check_123 : decode cX10_check 123 = .ok (.istore 5, 2) := by decide +kernel
theorem dX10_check_125 : decode cX10_check 125 = .ok (.iload 5, 2) := by decide +kernel
theorem dX10_check_127 : decode cX10_check 127 = .ok (.aload_n 0, 1) := by decide +kernel
theorem dX10_check_128 : decode cX10_check 128 = .ok (.iload_n 1, 1) := by decide +kernel
theorem dX10_check_129 : decode cX10_check 129 = .ok (.invokevirtual 119, 3) := by decide +kernel
theorem dX10_check_132 : decode cX10_check 132 = .ok (.if_icmp .ge 96, 3) := by decide +kernel
theorem dX10_check_135 : decode cX10_check 135 = .ok (.iconst 0, 1) := by decide +kernel
theorem dX10_check_136 : decode cX10_check 136 = .ok (.istore 6, 2) := by decide +kernel
theorem dX10_check_138 : decode cX10_check 138 = .ok (.aload_n 0, 1) := by decide +kernel
theorem dX10_check_139 : decode cX10_check 139 = .ok (.getfield 32, 3) := by decide +kernel
theorem dX10_check_142 : decode cX10_check 142 = .ok (.iload 6, 2) := by decide +kernel
theorem dX10_check_144 : decode cX10_check 144 = .ok (.iaload, 1) := by decide +kernel
theorem dX10_check_145 : decode cX10_check 145 = .ok (.bipush 8, 2) := by decide +kernel
theorem dX10_check_147 : decode cX10_check 147 = .ok (.if_icmp .ge 39, 3) := by decide +kernel
theorem dX10_check_150 : decode cX10_check 150 = .ok (.iload 5, 2) := by decide +kernel
theorem dX10_check_152 : decode cX10_check 152 = .ok (.aload_n 0, 1) := by decide +kernel
theorem dX10_check_153 : decode cX10_check 153 = .ok (.getfield 32, 3) := by decide +kernel
theorem dX10_check_156 : decode cX10_check 156 = .ok (.iload 6, 2) := by decide +kernel
theorem dX10_check_158 : decode cX10_check 158 = .ok (.iaload, 1) := by decide +kernel
theorem dX10_check_159 : decode cX10_check 159 = .ok (.ishr, 1) := by decide +kernel
theorem dX10_check_160 : decode cX10_check 160 = .ok (.iconst 1, 1) := by decide +kernel
theorem dX10_check_161 : decode cX10_check 161 = .ok (.iand, 1) := by decide +kernel
theorem dX10_check_162 : decode cX10_check 162 = .ok (.ifCond .ne 10, 3) := by decide +kernel
theorem dX10_check_165 : decode cX10_check 165 = .ok (.iload 6, 2) := by decide +kernel
theorem dX10_check_167 : decode cX10_check 167 = .ok (.iconst 1, 1) := by decide +kernel
theorem dX10_check_168 : decode cX10_check 168 = .ok (.iadd, 1) := by decide +kernel
theorem dX10_check_169 : decode cX10_check 169 = .ok (.goto 12, 3) := by decide +kernel
theorem dX10_check_172 : decode cX10_check 172 = .ok (.aload_n 0, 1) := by decide +kernel
theorem dX10_check_173 : decode cX10_check 173 = .ok (.iload 6, 2) := by decide +kernel
theorem dX10_check_175 : decode cX10_check 175 = .ok (.iconst 1, 1) := by decide +kernel
theorem dX10_check_176 : decode cX10_check 176 = .ok (.iadd, 1) := by decide +kernel
theorem dX10_check_177 : decode cX10_check 177 = .ok (.iload_n 2, 1) := by decide +kernel
theorem dX10_check_178 : decode cX10_check 178 = .ok (.invokevirtual 199, 3) := by decide +kernel
theorem dX10_check_181 : decode cX10_check 181 = .ok (.istore 6, 2) := by decide +kernel
theorem dX10_check_183 : decode cX10_check 183 = .ok (.goto (-45), 3) := by decide +kernel
theorem dX10_check_186 : decode cX10_check 186 = .ok (.aload_n 0, 1) := by decide +kernel
theorem dX10_check_187 : decode cX10_check 187 = .ok (.iload_n 1, 1) := by decide +kernel
theorem dX10_check_188 : decode cX10_check 188 = .ok (.iload 5, 2) := by decide +kernel
theorem dX10_check_190 : decode cX10_check 190 = .ok (.invokevirtual 123, 3) := by decide +kernel
theorem dX10_check_193 : decode cX10_check 193 = .ok (.iconst 2, 1) := by decide +kernel
theorem dX10_check_194 : decode cX10_check 194 = .ok (.if_icmp .eq 28, 3) := by decide +kernel
theorem dX10_check_197 : decode cX10_check 197 = .ok (.aload_n 0, 1) := by decide +kernel
theorem dX10_check_198 : decode cX10_check 198 = .ok (.iload_n 1, 1) := by decide +kernel
theorem dX10_check_199 : decode cX10_check 199 = .ok (.iload 5, 2) := by decide +kernel
theorem dX10_check_201 : decode cX10_check 201 = .ok (.invokevirtual 123, 3) := by decide +kernel
theorem dX10_check_204 : decode cX10_check 204 = .ok (.aload_n 0, 1) := by decide +kernel
theorem dX10_check_205 : decode cX10_check 205 = .ok (.getfield 32, 3) := by decide +kernel
theorem dX10_check_208 : decode cX10_check 208 = .ok (.iload 6, 2) := by decide +kernel
theorem dX10_check_210 : decode cX10_check 210 = .ok (.iaload, 1) := by decide +kernel
theorem dX10_check_211 : decode cX10_check 211 = .ok (.bipush 20, 2) := by decide +kernel
theorem dX10_check_213 : decode cX10_check 213 = .ok (.isub, 1) := by decide +kernel
theorem dX10_check_214 : decode cX10_check 214 = .ok (.if_icmp .eq 8, 3) := by decide +kernel
theorem dX10_check_217 : decode cX10_check 217 = .ok (.iconst 1, 1) := by decide +kernel
theorem dX10_check_218 : decode cX10_check 218 = .ok (.iload 5, 2) := by decide +kernel
theorem dX10_check_220 : decode cX10_check 220 = .ok (.iadd, 1) := by decide +kernel
theorem dX10_check_221 : decode cX10_check 221 = .ok (.ireturn, 1) := by decide +kernel
theorem dX10_check_222 : decode cX10_check 222 = .ok (.iinc 5 1, 3) := by decide +kernel
theorem dX10_check_225 : decode cX10_check 225 = .ok (.goto (-100), 3) := by decide +kernel
theorem dX10_check_228 : decode cX10_check 228 = .ok (.iconst 0, 1) := by decide +kernel
theorem dX10_check_229 : decode cX10_check 229 = .ok (.ireturn, 1) := by decide +kernel
abbrev rmX10_check : Room := { frames := 2, cells := 0, slots := 0, locals := 41 }
theorem yd_X10_check : yX10_check.cls = RX10 ∧ yX10_check.cls ≠ "java/lang/invoke/MethodHandle" ∧ yX10_check.cls ≠ "java/lang/invoke/VarHandle" ∧ (parseMethodDescriptor yX10_check.desc).map (fun d => d.parameters.length) = some 1 := by decide +kernel
def fX10_check_L32_J95 (r : RS) (l1 : Int32) (l2 : Int32) (l5 : Int32) (s0 : Int32) (s1 : Int32) : Option ((Int32 × Int32) ⊕ Int32) :=
  some (.inl ((s1 &&& s0), (l5 + (1 : Int32))))
def fX10_check_L32_J90 (r : RS) (l1 : Int32) (l2 : Int32) (l5 : Int32) (s0 : Int32) : Option ((Int32 × Int32) ⊕ Int32) :=
  fX10_check_L32_J95 r l1 l2 l5 (1 : Int32) s0
def fX10_check_L32_J66 (r : RS) (l1 : Int32) (l2 : Int32) (l5 : Int32) (s0 : Int32) : Option ((Int32 × Int32) ⊕ Int32) :=
  (aI 100 (r.2.1 7) l5).bind fun v3 =>
  if v3 = (20 : Int32) then
    fX10_check_L32_J90 r l1 l2 l5 s0
  else
    (aI 100 (r.2.1 7) l5).bind fun v4 =>
    if v4 = (21 : Int32) then
      fX10_check_L32_J90 r l1 l2 l5 s0
    else
      fX10_check_L32_J95 r l1 l2 l5 (0 : Int32) s0
def fX10_check_L32 (r : RS) (l1 : Int32) (l2 : Int32) (l4 : Int32) (l5 : Int32) : Option ((Int32 × Int32) ⊕ Int32) :=
  if l2 ≤ l5 then
    some (.inr l4)
  else
    (aI 100 (r.2.1 7) l5).bind fun v2 =>
    if v2 < 0 then
      fX10_check_L32_J66 r l1 l2 l5 l4
    else
      (aI 100 (r.2.1 7) l5).bind fun v5 =>
      (aI 16 (r.2.1 0) l1).bind fun v6 =>
      if v5 < v6 then
        fX10_check_L32_J90 r l1 l2 l5 l4
      else
        fX10_check_L32_J66 r l1 l2 l5 l4
def fX10_check_L138_J181 (r : RS) (l1 : Int32) (l2 : Int32) (l5 : Int32) (s0 : Int32) : Option (Int32 ⊕ Int32) :=
  some (.inl s0)
def fX10_check_L138 (r : RS) (l1 : Int32) (l2 : Int32) (l5 : Int32) (l6 : Int32) : Option (Int32 ⊕ Int32) :=
  (aI 100 (r.2.1 7) l6).bind fun v10 =>
  if (8 : Int32) ≤ v10 then
    some (.inr l6)
  else
    (aI 100 (r.2.1 7) l6).bind fun v11 =>
    if ((l5 >>> (v11 &&& 31)) &&& (1 : Int32)) = 0 then
      fX10_check_L138_J181 r l1 l2 l5 (l6 + (1 : Int32))
    else
      (fX10_behind r (l6 + (1 : Int32)) l2).bind fun q12 =>
      fX10_check_L138_J181 r l1 l2 l5 q12
def fX10_check_L125_J222 (r : RS) (l1 : Int32) (l2 : Int32) (l5 : Int32) : Option (Int32 ⊕ (Unit ⊕ (Int32 × RS))) :=
  some (.inl (l5 + (1 : Int32)))
def fX10_check_L125 (r : RS) (l1 : Int32) (l2 : Int32) (l5 : Int32) : Option (Int32 ⊕ (Unit ⊕ (Int32 × RS))) :=
  (fX10_inputs r l1).bind fun q9 =>
  if q9 ≤ l5 then
    some (.inr (.inl ()))
  else
    (lpN (fun u => fX10_check_L138 r l1 l2 l5 u) bigN (0 : Int32)).bind fun e13 =>
    (fX10_say0 r l1 l5).bind fun q14 =>
    if q14 = (2 : Int32) then
      fX10_check_L125_J222 r l1 l2 l5
    else
      (fX10_say0 r l1 l5).bind fun q15 =>
      (aI 100 (r.2.1 7) e13).bind fun v16 =>
      if q15 = (v16 - (20 : Int32)) then
        fX10_check_L125_J222 r l1 l2 l5
      else
        some (.inr (.inr (((1 : Int32) + l5), r)))
def fX10_check_J119 (r : RS) : Option (Int32 × RS) :=
  some ((-3 : Int32), r)
def fX10_check (r : RS) (a1 : Int32) : Option (Int32 × RS) :=
  (fX10_askPlace (rI r 1 (0 : Int32)) a1).bind fun q1 =>
  if q1 = 0 then
    (lpN (fun u => fX10_check_L32 (rI r 1 (0 : Int32)) a1 (r.1 1) u.1 u.2) bigN ((1 : Int32), (0 : Int32))).bind fun e7 =>
    if e7 = 0 then
      fX10_check_J119 (rI r 1 (0 : Int32))
    else
      (fX10_behind (rI r 1 (0 : Int32)) (0 : Int32) (r.1 1)).bind fun q8 =>
      if q8 = (r.1 1) then
        (lpN (fun u => fX10_check_L125 (rI r 1 (0 : Int32)) a1 (r.1 1) u) bigN (0 : Int32)).bind fun e17 =>
        sel e17 (fun x18 =>
          some ((0 : Int32), (rI r 1 (0 : Int32)))
          ) (fun rt => some rt)
      else
        fX10_check_J119 (rI r 1 (0 : Int32))
  else
    (fX10_meet (rI r 1 (0 : Int32)) q1).bind fun q19 =>
    some (q19.1, q19.2)
set_option maxHeartbeats 4000000 in
set_option maxRecDepth 100000 in
theorem tX10_check_L32 {κ : KK} {p : Program} {l : Launch} {e : Env} {s : State} {m : MethodId} {args : Array Value} {below : List Frame} {meth : Method} {c : Code} (C : Cx κ p s m args meth c cX10_check 7 RX10 (some .int)) {o : Nat} {v : Option Value} {B' : Heap → Prop} {r : RS} {l1 : Int32} {l2 : Int32} {l4 : Int32} {l5 : Int32} {y : (Int32 × Int32) ⊕ Int32} (h : fX10_check_L32 r l1 l2 l4 l5 = some y) (kc : ∀ u, y = .inl u → GR κ p l e s m args below meth c rmX10_check 7 o v B' r 32 [(0, .ref o), (1, .int l1), (2, .int l2), (4, .int u.1), (5, .int u.2)] []) (kx : ∀ w, y = .inr w → GR κ p l e s m args below meth c rmX10_check 7 o v B' r 104 [(0, .ref o), (1, .int l1), (2, .int l2), (4, .int w)] []) : GR κ p l e s m args below meth c rmX10_check 7 o v B' r 32 [(0, .ref o), (1, .int l1), (2, .int l2), (4, .int l4), (5, .int l5)] [] := by
  have J95 : ∀ (l5 : Int32) (s0 : Int32) (s1 : Int32), fX10_check_L32_J95 r l1 l2 l5 s0 s1 = some y → GR κ p l e s m args below meth c rmX10_check 7 o v B' r 95 [(0, .ref o), (1, .int l1), (2, .int l2), (5, .int l5)] [.int s0, .int s1] := by
    intro l5 s0 s1 h
    unfold fX10_check_L32_J95 at h
    refine G_iand (pc' := 96) C dX10_check_95 rfl ?_
    refine G_istore (pc' := 98) C dX10_check_96 [(4, .int (s1 &&& s0)), (0, .ref o), (1, .int l1), (2, .int l2), (5, .int l5)] (by decide) rfl rfl ?_
    refine G_iinc (pc' := 101) C dX10_check_98 4 rfl rfl [(5, .int (l5 + (1 : Int32))), (4, .int (s1 &&& s0)), (0, .ref o), (1, .int l1), (2, .int l2)] (by decide) rfl rfl ?_
    refine G_goto (tgt := 32) C dX10_check_101 (by decide) ?_
    exact G_sub [2, 3, 4, 1, 0] rfl (kc _ (Option.some.inj h).symm)
  have J90 : ∀ (l5 : Int32) (s0 : Int32), fX10_check_L32_J90 r l1 l2 l5 s0 = some y → GR κ p l e s m args below meth c rmX10_check 7 o v B' r 90 [(0, .ref o), (1, .int l1), (2, .int l2), (5, .int l5)] [.int s0] := by
    intro l5 s0 h
    unfold fX10_check_L32_J90 at h
    refine G_iconst (pc' := 91) (v := (1 : Int32)) C dX10_check_90 (by decide) rfl ?_
    refine G_goto (tgt := 95) C dX10_check_91 (by decide) ?_
    exact G_sub [0, 1, 2, 3] rfl (J95 l5 (1 : Int32) s0 h)
  have J66 : ∀ (l5 : Int32) (s0 : Int32), fX10_check_L32_J66 r l1 l2 l5 s0 = some y → GR κ p l e s m args below meth c rmX10_check 7 o v B' r 66 [(0, .ref o), (1, .int l1), (2, .int l2), (5, .int l5)] [.int s0] := by
    intro l5 s0 h
    unfold fX10_check_L32_J66 at h
    refine G_aload_n (pc' := 67) C dX10_check_66 0 rfl rfl ?_
    refine R_g_waiting (pc' := 70) C dX10_check_67 rfl ?_
    refine G_iload (pc' := 72) C dX10_check_70 3 rfl rfl ?_
    obtain ⟨v3, hv3, h⟩ := ob h
    refine R_l_waiting (pc' := 73) C dX10_check_72 hv3 rfl ?_
    refine G_bipush (pc' := 75) (v := (20 : Int32)) C dX10_check_73 (by decide) rfl ?_
    refine G_icmp_eq (tgt := 90) (pc' := 78) C dX10_check_75 (by decide) rfl (fun hc => ?_) (fun hc => ?_)
    · replace h := z_ip hc h
      exact G_sub [0, 1, 2, 3] rfl (J90 l5 s0 h)
    · replace h := z_in hc h
      refine G_aload_n (pc' := 79) C dX10_check_78 0 rfl rfl ?_
      refine R_g_waiting (pc' := 82) C dX10_check_79 rfl ?_
      refine G_iload (pc' := 84) C dX10_check_82 3 rfl rfl ?_
      obtain ⟨v4, hv4, h⟩ := ob h
      refine R_l_waiting (pc' := 85) C dX10_check_84 hv4 rfl ?_
      refine G_bipush (pc' := 87) (v := (21 : Int32)) C dX10_check_85 (by decide) rfl ?_
      refine G_icmp_ne (tgt := 94) (pc' := 90) C dX10_check_87 (by decide) rfl (fun hc => ?_) (fun hc => ?_)
      · replace h := z_in hc h
        refine G_iconst (pc' := 95) (v := (0 : Int32)) C dX10_check_94 (by decide) rfl ?_
        exact G_sub [0, 1, 2, 3] rfl (J95 l5 (0 : Int32) s0 h)
      · replace h := z_ip hc h
        exact G_sub [0, 1, 2, 3] rfl (J90 l5 s0 h)
  unfold fX10_check_L32 at h
  refine G_iload (pc' := 34) C dX10_check_32 4 rfl rfl ?_
  refine G_iload_n (pc' := 35) C dX10_check_34 2 rfl rfl ?_
  refine G_icmp_ge (tgt := 104) (pc' := 38) C dX10_check_35 (by decide) rfl (fun hc => ?_) (fun hc => ?_)
  · replace h := z_ip hc h
    exact G_sub [0, 1, 2, 3] rfl (kx _ (Option.some.inj h).symm)
  · replace h := z_in hc h
    refine G_iload (pc' := 40) C dX10_check_38 3 rfl rfl ?_
    refine G_aload_n (pc' := 41) C dX10_check_40 0 rfl rfl ?_
    refine R_g_waiting (pc' := 44) C dX10_check_41 rfl ?_
    refine G_iload (pc' := 46) C dX10_check_44 4 rfl rfl ?_
    obtain ⟨v2, hv2, h⟩ := ob h
    refine R_l_waiting (pc' := 47) C dX10_check_46 hv2 rfl ?_
    refine G_if_lt (tgt := 66) (pc' := 50) C dX10_check_47 (by decide) rfl (fun hc => ?_) (fun hc => ?_)
    · replace h := z_ip hc h
      exact G_sub [0, 1, 2, 4] rfl (J66 l5 l4 h)
    · replace h := z_in hc h
      refine G_aload_n (pc' := 51) C dX10_check_50 0 rfl rfl ?_
      refine R_g_waiting (pc' := 54) C dX10_check_51 rfl ?_
      refine G_iload (pc' := 56) C dX10_check_54 4 rfl rfl ?_
      obtain ⟨v5, hv5, h⟩ := ob h
      refine R_l_waiting (pc' := 57) C dX10_check_56 hv5 rfl ?_
      refine G_aload_n (pc' := 58) C dX10_check_57 0 rfl rfl ?_
      refine R_g_bits (pc' := 61) C dX10_check_58 rfl ?_
      refine G_iload_n (pc' := 62) C dX10_check_61 1 rfl rfl ?_
      obtain ⟨v6, hv6, h⟩ := ob h
      refine R_l_bits (pc' := 63) C dX10_check_62 hv6 rfl ?_
      refine G_icmp_lt (tgt := 90) (pc' := 66) C dX10_check_63 (by decide) rfl (fun hc => ?_) (fun hc => ?_)
      · replace h := z_ip hc h
        exact G_sub [0, 1, 2, 4] rfl (J90 l5 l4 h)
      · replace h := z_in hc h
        exact G_sub [0, 1, 2, 4] rfl (J66 l5 l4 h)
set_option maxHeartbeats 4000000 in
set_option maxRecDepth 100000 in
theorem tX10_check_L138 {κ : KK} {p : Program} {l : Launch} {e : Env} {s : State} {m : MethodId} {args : Array Value} {below : List Frame} {meth : Method} {c : Code} (C : Cx κ p s m args meth c cX10_check 7 RX10 (some .int)) {o : Nat} {v : Option Value} {B' : Heap → Prop} {r : RS} {l1 : Int32} {l2 : Int32} {l5 : Int32} {l6 : Int32} {y : Int32 ⊕ Int32} (h : fX10_check_L138 r l1 l2 l5 l6 = some y) (kc : ∀ u, y = .inl u → GR κ p l e s m args below meth c rmX10_check 7 o v B' r 138 [(0, .ref o), (1, .int l1), (2, .int l2), (5, .int l5), (6, .int u)] []) (kx : ∀ w, y = .inr w → GR κ p l e s m args below meth c rmX10_check 7 o v B' r 186 [(0, .ref o), (1, .int l1), (2, .int l2), (5, .int l5), (6, .int w)] []) : GR κ p l e s m args below meth c rmX10_check 7 o v B' r 138 [(0, .ref o), (1, .int l1), (2, .int l2), (5, .int l5), (6, .int l6)] [] := by
  have J181 : ∀ (s0 : Int32), fX10_check_L138_J181 r l1 l2 l5 s0 = some y → GR κ p l e s m args below meth c rmX10_check 7 o v B' r 181 [(0, .ref o), (1, .int l1), (2, .int l2), (5, .int l5)] [.int s0] := by
    intro s0 h
    unfold fX10_check_L138_J181 at h
    refine G_istore (pc' := 183) C dX10_check_181 [(6, .int s0), (0, .ref o), (1, .int l1), (2, .int l2), (5, .int l5)] (by decide) rfl rfl ?_
    refine G_goto (tgt := 138) C dX10_check_183 (by decide) ?_
    exact G_sub [1, 2, 3, 4, 0] rfl (kc _ (Option.some.inj h).symm)
  unfold fX10_check_L138 at h
  refine G_aload_n (pc' := 139) C dX10_check_138 0 rfl rfl ?_
  refine R_g_waiting (pc' := 142) C dX10_check_139 rfl ?_
  refine G_iload (pc' := 144) C dX10_check_142 4 rfl rfl ?_
  obtain ⟨v10, hv10, h⟩ := ob h
  refine R_l_waiting (pc' := 145) C dX10_check_144 hv10 rfl ?_
  refine G_bipush (pc' := 147) (v := (8 : Int32)) C dX10_check_145 (by decide) rfl ?_
  refine G_icmp_ge (tgt := 186) (pc' := 150) C dX10_check_147 (by decide) rfl (fun hc => ?_) (fun hc => ?_)
  · replace h := z_ip hc h
    exact G_sub [0, 1, 2, 3, 4] rfl (kx _ (Option.some.inj h).symm)
  · replace h := z_in hc h
    refine G_iload (pc' := 152) C dX10_check_150 3 rfl rfl ?_
    refine G_aload_n (pc' := 153) C dX10_check_152 0 rfl rfl ?_
    refine R_g_waiting (pc' := 156) C dX10_check_153 rfl ?_
    refine G_iload (pc' := 158) C dX10_check_156 4 rfl rfl ?_
    obtain ⟨v11, hv11, h⟩ := ob h
    refine R_l_waiting (pc' := 159) C dX10_check_158 hv11 rfl ?_
    refine G_ishr (pc' := 160) C dX10_check_159 rfl ?_
    refine G_iconst (pc' := 161) (v := (1 : Int32)) C dX10_check_160 (by decide) rfl ?_
    refine G_iand (pc' := 162) C dX10_check_161 rfl ?_
    refine G_if_ne (tgt := 172) (pc' := 165) C dX10_check_162 (by decide) rfl (fun hc => ?_) (fun hc => ?_)
    · replace h := z_in hc h
      refine G_aload_n (pc' := 173) C dX10_check_172 0 rfl rfl ?_
      refine G_iload (pc' := 175) C dX10_check_173 4 rfl rfl ?_
      refine G_iconst (pc' := 176) (v := (1 : Int32)) C dX10_check_175 (by decide) rfl ?_
      refine G_iadd (pc' := 177) C dX10_check_176 rfl ?_
      refine G_iload_n (pc' := 178) C dX10_check_177 2 rfl rfl ?_
      obtain ⟨q12, hq12, h⟩ := ob h
      refine G_cV0 (pc' := 181) C dX10_check_178 (tX10_behind κ l o r (l6 + (1 : Int32)) l2 q12 hq12) (wV tw_ml_X10_199 tw_im_X10_behind tw_se_X10_X10_behind tw_in_X10 tw_co_X10_behind) yd_X10_behind rfl fi_X10 (RB_rd 0 rfl) rfl rfl (by decide) rfl (Nat.le_of_ble_eq_true rfl) rfl rfl ?_
      exact G_sub [0, 1, 2, 3] rfl (J181 q12 h)
    · replace h := z_ip hc h
      refine G_iload (pc' := 167) C dX10_check_165 4 rfl rfl ?_
      refine G_iconst (pc' := 168) (v := (1 : Int32)) C dX10_check_167 (by decide) rfl ?_
      refine G_iadd (pc' := 169) C dX10_check_168 rfl ?_
      refine G_goto (tgt := 181) C dX10_check_169 (by decide) ?_
      exact G_sub [0, 1, 2, 3] rfl (J181 (l6 + (1 : Int32)) h)
set_option maxHeartbeats 4000000 in
set_option maxRecDepth 100000 in
theorem tX10_check_L125 {κ : KK} {p : Program} {l : Launch} {e : Env} {s : State} {m : MethodId} {args : Array Value} {below : List Frame} {meth : Method} {c : Code} (C : Cx κ p s m args meth c cX10_check 7 RX10 (some .int)) {o : Nat} {v : Option Value} {B' : Heap → Prop} {r : RS} {l1 : Int32} {l2 : Int32} {l5 : Int32} {y : Int32 ⊕ (Unit ⊕ (Int32 × RS))} (h : fX10_check_L125 r l1 l2 l5 = some y) (kc : ∀ u, y = .inl u → GR κ p l e s m args below meth c rmX10_check 7 o v B' r 125 [(0, .ref o), (1, .int l1), (2, .int l2), (5, .int u)] []) (kx : ∀ w, y = .inr w → (∀ x, w = .inl x → GR κ p l e s m args below meth c rmX10_check 7 o v B' r 228 [] []) ∧ (∀ rt, w = .inr rt → v = (some (Value.int rt.1)) ∧ B' = (RB κ o rt.2))) : GR κ p l e s m args below meth c rmX10_check 7 o v B' r 125 [(0, .ref o), (1, .int l1), (2, .int l2), (5, .int l5)] [] := by
  have J222 : ∀ (l5 : Int32), fX10_check_L125_J222 r l1 l2 l5 = some y → GR κ p l e s m args below meth c rmX10_check 7 o v B' r 222 [(0, .ref o), (1, .int l1), (2, .int l2), (5, .int l5)] [] := by
    intro l5 h
    unfold fX10_check_L125_J222 at h
    refine G_iinc (pc' := 225) C dX10_check_222 3 rfl rfl [(5, .int (l5 + (1 : Int32))), (0, .ref o), (1, .int l1), (2, .int l2)] (by decide) rfl rfl ?_
    refine G_goto (tgt := 125) C dX10_check_225 (by decide) ?_
    exact G_sub [1, 2, 3, 0] rfl (kc _ (Option.some.inj h).symm)
  unfold fX10_check_L125 at h
  refine G_iload (pc' := 127) C dX10_check_125 3 rfl rfl ?_
  refine G_aload_n (pc' := 128) C dX10_check_127 0 rfl rfl ?_
  refine G_iload_n (pc' := 129) C dX10_check_128 1 rfl rfl ?_
  obtain ⟨q9, hq9, h⟩ := ob h
  refine G_cV0 (pc' := 132) C dX10_check_129 (tX10_inputs κ l o r l1 q9 hq9) (wV tw_ml_X10_119 tw_im_X10_inputs tw_se_X10_X10_inputs tw_in_X10 tw_co_X10_inputs) yd_X10_inputs rfl fi_X10 (RB_rd 0 rfl) rfl rfl (by decide) rfl (Nat.le_of_ble_eq_true rfl) rfl rfl ?_
  refine G_icmp_ge (tgt := 228) (pc' := 135) C dX10_check_132 (by decide) rfl (fun hc => ?_) (fun hc => ?_)
  · replace h := z_ip hc h
    exact G_sub [] rfl ((kx _ (Option.some.inj h).symm).1 _ rfl)
  · replace h := z_in hc h
    refine G_iconst (pc' := 136) (v := (0 : Int32)) C dX10_check_135 (by decide) rfl ?_
    refine G_istore (pc' := 138) C dX10_check_136 [(6, .int (0 : Int32)), (0, .ref o), (1, .int l1), (2, .int l2), (5, .int l5)] (by decide) rfl rfl ?_
    obtain ⟨e13, hle13, h⟩ := ob h
    refine G_sub (lv' := [(0, .ref o), (1, .int l1), (2, .int l2), (5, .int l5), (6, .int (0 : Int32))]) [1, 2, 3, 4, 0] rfl ?_
    refine lpN_ind (body := fun u => fX10_check_L138 r l1 l2 l5 u) (P := fun u => GR κ p l e s m args below meth c rmX10_check 7 o v B' r 138 [(0, .ref o), (1, .int l1), (2, .int l2), (5, .int l5), (6, .int u)] []) (X := fun w => GR κ p l e s m args below meth c rmX10_check 7 o v B' r 186 [(0, .ref o), (1, .int l1), (2, .int l2), (5, .int l5), (6, .int w)] []) (fun u y hb kc kx => tX10_check_L138 C hb kc kx) _ _ _ hle13 ?_
    refine G_aload_n (pc' := 187) C dX10_check_186 0 rfl rfl ?_
    refine G_iload_n (pc' := 188) C dX10_check_187 1 rfl rfl ?_
    refine G_iload (pc' := 190) C dX10_check_188 3 rfl rfl ?_
    obtain ⟨q14, hq14, h⟩ := ob h
    refine G_cV0 (pc' := 193) C dX10_check_190 (tX10_say0 κ l o r l1 l5 q14 hq14) (wV tw_ml_X10_123 tw_im_X10_say0 tw_se_X10_X10_say0 tw_in_X10 tw_co_X10_say0) yd_X10_say0 rfl fi_X10 (RB_rd 0 rfl) rfl rfl (by decide) rfl (Nat.le_of_ble_eq_true rfl) rfl rfl ?_
    refine G_iconst (pc' := 194) (v := (2 : Int32)) C dX10_check_193 (by decide) rfl ?_
    refine G_icmp_eq (tgt := 222) (pc' := 197) C dX10_check_194 (by decide) rfl (fun hc => ?_) (fun hc => ?_)
    · replace h := z_ip hc h
      exact G_sub [0, 1, 2, 3] rfl (J222 l5 h)
    · replace h := z_in hc h
      refine G_aload_n (pc' := 198) C dX10_check_197 0 rfl rfl ?_
      refine G_iload_n (pc' := 199) C dX10_check_198 1 rfl rfl ?_
      refine G_iload (pc' := 201) C dX10_check_199 3 rfl rfl ?_
      obtain ⟨q15, hq15, h⟩ := ob h
      refine G_cV0 (pc' := 204) C dX10_check_201 (tX10_say0 κ l o r l1 l5 q15 hq15) (wV tw_ml_X10_123 tw_im_X10_say0 tw_se_X10_X10_say0 tw_in_X10 tw_co_X10_say0) yd_X10_say0 rfl fi_X10 (RB_rd 0 rfl) rfl rfl (by decide) rfl (Nat.le_of_ble_eq_true rfl) rfl rfl ?_
      refine G_aload_n (pc' := 205) C dX10_check_204 0 rfl rfl ?_
      refine R_g_waiting (pc' := 208) C dX10_check_205 rfl ?_
      refine G_iload (pc' := 210) C dX10_check_208 4 rfl rfl ?_
      obtain ⟨v16, hv16, h⟩ := ob h
      refine R_l_waiting (pc' := 211) C dX10_check_210 hv16 rfl ?_
      refine G_bipush (pc' := 213) (v := (20 : Int32)) C dX10_check_211 (by decide) rfl ?_
      refine G_isub (pc' := 214) C dX10_check_213 rfl ?_
      refine G_icmp_eq (tgt := 222) (pc' := 217) C dX10_check_214 (by decide) rfl (fun hc => ?_) (fun hc => ?_)
      · replace h := z_ip hc h
        exact G_sub [0, 1, 2, 3] rfl (J222 l5 h)
      · replace h := z_in hc h
        refine G_iconst (pc' := 218) (v := (1 : Int32)) C dX10_check_217 (by decide) rfl ?_
        refine G_iload (pc' := 220) C dX10_check_218 3 rfl rfl ?_
        refine G_iadd (pc' := 221) C dX10_check_220 rfl ?_
        obtain ⟨hv, hB⟩ := (kx _ (Option.some.inj h).symm).2 _ rfl
        subst hv
        subst hB
        exact G_iret C dX10_check_221 (fun _ h => h)
set_option maxHeartbeats 4000000 in
set_option maxRecDepth 100000 in
theorem tX10_check (κ : KK) (l : Launch) (o : Nat) (r : RS) (a1 : Int32) (q : Int32 × RS) (h : fX10_check r a1 = some q) : MM κ l yX10_check cX10_check 7 (some .int) rmX10_check (RA o) [.ref o, .int a1] (RB κ o r) (some (Value.int q.1)) (RB κ o q.2) := by
  refine MM.of (by decide +kernel) (Nat.le_of_ble_eq_true rfl) ?_
  intro p e s m below meth c C hnm
  have J119 : ∀ (r : RS), fX10_check_J119 r = some q → GR κ p l e s m ([.ref o, .int a1] : List Value).toArray below meth c rmX10_check 7 o (some (Value.int q.1)) (RB κ o q.2) r 119 [] [] := by
    intro r h
    unfold fX10_check_J119 at h
    refine G_bipush (pc' := 121) (v := (-3 : Int32)) C dX10_check_119 (by decide) rfl ?_
    obtain rfl := Option.some.inj h
    exact G_iret C dX10_check_121 (fun _ h => h)
  unfold fX10_check at h
  refine G_sub (lv' := [(0, .ref o), (1, .int a1)]) [0, 1] rfl ?_
  refine G_aload_n (pc' := 1) C dX10_check_0 0 rfl rfl ?_
  refine R_g_waits (pc' := 4) C dX10_check_1 rfl ?_
  refine G_istore_n (pc' := 5) C dX10_check_4 [(2, .int (r.1 1)), (0, .ref o), (1, .int a1)] (by decide) rfl rfl ?_
  refine G_aload_n (pc' := 6) C dX10_check_5 1 rfl rfl ?_
  refine G_iconst (pc' := 7) (v := (0 : Int32)) C dX10_check_6 (by decide) rfl ?_
  refine R_p_waits (pc' := 10) C dX10_check_7 rfl ?_
  refine G_aload_n (pc' := 11) C dX10_check_10 1 rfl rfl ?_
  refine G_iload_n (pc' := 12) C dX10_check_11 2 rfl rfl ?_
  obtain ⟨q1, hq1, h⟩ := ob h
  refine G_cV0 (pc' := 15) C dX10_check_12 (tX10_askPlace κ l o (rI r 1 (0 : Int32)) a1 q1 hq1) (wV tw_ml_X10_127 tw_im_X10_askPlace tw_se_X10_X10_askPlace tw_in_X10 tw_co_X10_askPlace) yd_X10_askPlace rfl fi_X10 (RB_rd 0 rfl) rfl rfl (by decide) rfl (Nat.le_of_ble_eq_true rfl) rfl rfl ?_
  refine G_istore_n (pc' := 16) C dX10_check_15 [(3, .int q1), (2, .int (r.1 1)), (0, .ref o), (1, .int a1)] (by decide) rfl rfl ?_
  refine G_iload_n (pc' := 17) C dX10_check_16 0 rfl rfl ?_
  refine G_if_eq (tgt := 26) (pc' := 20) C dX10_check_17 (by decide) rfl (fun hc => ?_) (fun hc => ?_)
  · replace h := z_ip hc h
    refine G_iconst (pc' := 27) (v := (1 : Int32)) C dX10_check_26 (by decide) rfl ?_
    refine G_istore (pc' := 29) C dX10_check_27 [(4, .int (1 : Int32)), (3, .int q1), (2, .int (r.1 1)), (0, .ref o), (1, .int a1)] (by decide) rfl rfl ?_
    refine G_iconst (pc' := 30) (v := (0 : Int32)) C dX10_check_29 (by decide) rfl ?_
    refine G_istore (pc' := 32) C dX10_check_30 [(5, .int (0 : Int32)), (4, .int (1 : Int32)), (3, .int q1), (2, .int (r.1 1)), (0, .ref o), (1, .int a1)] (by decide) rfl rfl ?_
    obtain ⟨e7, hle7, h⟩ := ob h
    refine G_sub (lv' := [(0, .ref o), (1, .int a1), (2, .int (r.1 1)), (4, .int (1 : Int32)), (5, .int (0 : Int32))]) [4, 5, 3, 1, 0] rfl ?_
    refine lpN_ind (body := fun u => fX10_check_L32 (rI r 1 (0 : Int32)) a1 (r.1 1) u.1 u.2) (P := fun u => GR κ p l e s m ([.ref o, .int a1] : List Value).toArray below meth c rmX10_check 7 o (some (Value.int q.1)) (RB κ o q.2) (rI r 1 (0 : Int32)) 32 [(0, .ref o), (1, .int a1), (2, .int (r.1 1)), (4, .int u.1), (5, .int u.2)] []) (X := fun w => GR κ p l e s m ([.ref o, .int a1] : List Value).toArray below meth c rmX10_check 7 o (some (Value.int q.1)) (RB κ o q.2) (rI r 1 (0 : Int32)) 104 [(0, .ref o), (1, .int a1), (2, .int (r.1 1)), (4, .int w)] []) (fun u y hb kc kx => tX10_check_L32 C hb kc kx) _ _ _ hle7 ?_
    refine G_iload (pc' := 106) C dX10_check_104 3 rfl rfl ?_
    refine G_if_eq (tgt := 119) (pc' := 109) C dX10_check_106 (by decide) rfl (fun hc => ?_) (fun hc => ?_)
    · replace h := z_ip hc h
      exact G_sub [] rfl (J119 (rI r 1 (0 : Int32)) h)
    · replace h := z_in hc h
      refine G_aload_n (pc' := 110) C dX10_check_109 0 rfl rfl ?_
      refine G_iconst (pc' := 111) (v := (0 : Int32)) C dX10_check_110 (by decide) rfl ?_
      refine G_iload_n (pc' := 112) C dX10_check_111 2 rfl rfl ?_
      obtain ⟨q8, hq8, h⟩ := ob h
      refine G_cV0 (pc' := 115) C dX10_check_112 (tX10_behind κ l o (rI r 1 (0 : Int32)) (0 : Int32) (r.1 1) q8 hq8) (wV tw_ml_X10_199 tw_im_X10_behind tw_se_X10_X10_behind tw_in_X10 tw_co_X10_behind) yd_X10_behind rfl fi_X10 (RB_rd 0 rfl) rfl rfl (by decide) rfl (Nat.le_of_ble_eq_true rfl) rfl rfl ?_
      refine G_iload_n (pc' := 116) C dX10_check_115 2 rfl rfl ?_
      refine G_icmp_eq (tgt := 122) (pc' := 119) C dX10_check_116 (by decide) rfl (fun hc => ?_) (fun hc => ?_)
      · replace h := z_ip hc h
        refine G_iconst (pc' := 123) (v := (0 : Int32)) C dX10_check_122 (by decide) rfl ?_
        refine G_istore (pc' := 125) C dX10_check_123 [(5, .int (0 : Int32)), (0, .ref o), (1, .int a1), (2, .int (r.1 1)), (4, .int e7)] (by decide) rfl rfl ?_
        obtain ⟨e17, hle17, h⟩ := ob h
        refine G_sub (lv' := [(0, .ref o), (1, .int a1), (2, .int (r.1 1)), (5, .int (0 : Int32))]) [1, 2, 3, 0] rfl ?_
        refine lpN_ind (body := fun u => fX10_check_L125 (rI r 1 (0 : Int32)) a1 (r.1 1) u) (P := fun u => GR κ p l e s m ([.ref o, .int a1] : List Value).toArray below meth c rmX10_check 7 o (some (Value.int q.1)) (RB κ o q.2) (rI r 1 (0 : Int32)) 125 [(0, .ref o), (1, .int a1), (2, .int (r.1 1)), (5, .int u)] []) (X := fun w => (∀ x, w = .inl x → GR κ p l e s m ([.ref o, .int a1] : List Value).toArray below meth c rmX10_check 7 o (some (Value.int q.1)) (RB κ o q.2) (rI r 1 (0 : Int32)) 228 [] []) ∧ (∀ rt, w = .inr rt → (some (Value.int q.1)) = (some (Value.int rt.1)) ∧ (RB κ o q.2) = (RB κ o rt.2))) (fun u y hb kc kx => tX10_check_L125 C hb kc kx) _ _ _ hle17 ?_
        refine ⟨fun x18 hxx18 => ?_, fun rt hrt => ?_⟩
        · subst hxx18
          replace h := z_sl h
          refine G_iconst (pc' := 229) (v := (0 : Int32)) C dX10_check_228 (by decide) rfl ?_
          obtain rfl := Option.some.inj h
          exact G_iret C dX10_check_229 (fun _ h => h)
        · subst hrt
          replace h := z_sr h
          obtain rfl := Option.some.inj h
          exact ⟨rfl, rfl⟩
      · replace h := z_in hc h
        exact G_sub [] rfl (J119 (rI r 1 (0 : Int32)) h)
  · replace h := z_in hc h
    refine G_aload_n (pc' := 21) C dX10_check_20 2 rfl rfl ?_
    refine G_iload_n (pc' := 22) C dX10_check_21 0 rfl rfl ?_
    obtain ⟨q19, hq19, h⟩ := ob h
    refine G_cV0 (pc' := 25) C dX10_check_22 (tX10_meet κ l o (rI r 1 (0 : Int32)) q1 q19 hq19) (wV tw_ml_X10_136 tw_im_X10_meet tw_se_X10_X10_meet tw_in_X10 tw_co_X10_meet) yd_X10_meet rfl fi_X10 (RB_rd 0 rfl) rfl rfl (by decide) rfl (Nat.le_of_ble_eq_true rfl) rfl rfl ?_
    obtain rfl := Option.some.inj h
    exact G_iret C dX10_check_25 (fun _ h => h)
theorem dX10_sensitive_0 : decode cX10_sensitive 0 = .ok (.iconst 0, 1) := by decide +kernel
theorem dX10_sensitive_1 : decode cX10_sensitive 1 = .ok (.istore_n 3, 1) := by decide +kernel
theorem dX10_sensitive_2 : decode cX10_sensitive 2 = .ok (.iconst 0, 1) := by decide +kernel
theorem dX10_sensitive_3 : decode cX10_sensitive 3 = .ok (.istore 4, 2) := by decide +kernel
theorem dX10_sensitive_5 : decode cX10_sensitive 5 = .ok (.iload 4, 2) := by decide +kernel
theorem dX10_sensitive_7 : decode cX10_sensitive 7 = .ok (.aload_n 0, 1) := by decide +kernel
theorem dX10_sensitive_8 : decode cX10_sensitive 8 = .ok (.getfield 7, 3) := by decide +kernel
theorem dX10_sensitive_11 : decode cX10_sensitive 11 = .ok (.iload_n 1, 1) := by decide +kernel
theorem dX10_sensitive_12 : decode cX10_sensitive 12 = .ok (.iaload, 1) := by decide +kernel
theorem dX10_sensitive_13 : decode cX10_sensitive 13 = .ok (.if_icmp .ge 37, 3) := by decide +kernel
theorem dX10_sensitive_16 : decode cX10_sensitive 16 = .ok (.iload_n 3, 1) := by decide +kernel
theorem dX10_sensitive_17 : decode cX10_sensitive 17 = .ok (.aload_n 0, 1) := by decide +kernel
theorem dX10_sensitive_18 : decode cX10_sensitive 18 = .ok (.iload_n 1, 1) := by decide +kernel
theorem dX10_sensitive_19 : decode cX10_sensitive 19 = .ok (.iload_n 2, 1) := by decide +kernel
theorem dX10_sensitive_20 : decode cX10_sensitive 20 = .ok (.iconst 1, 1) := by decide +kernel
theorem dX10_sensitive_21 : decode cX10_sensitive 21 = .ok (.iload 4, 2) := by decide +kernel
theorem dX10_sensitive_23 : decode cX10_sensitive 23 = .ok (.ishl, 1) := by decide +kernel
theorem dX10_sensitive_24 : decode cX10_sensitive 24 = .ok (.ixor, 1) := by decide +kernel
theorem dX10_sensitive_25 : decode cX10_sensitive 25 = .ok (.invokevirtual 123, 3) := by decide +kernel
theorem dX10_sensitive_28 : decode cX10_sensitive 28 = .ok (.aload_n 0, 1) := by decide +kernel
theorem dX10_sensitive_29 : decode cX10_sensitive 29 = .ok (.iload_n 1, 1) := by decide +kernel
theorem dX10_sensitive_30 : decode cX10_sensitive 30 = .ok (.iload_n 2, 1) := by decide +kernel
theorem dX10_sensitive_31 : decode cX10_sensitive 31 = .ok (.invokevirtual 123, 3) := by decide +kernel
theorem dX10_sensitive_34 : decode cX10_sensitive 34 = .ok (.if_icmp .eq 7, 3) := by decide +kernel
theorem dX10_sensitive_37 : decode cX10_sensitive 37 = .ok (.iconst 1, 1) := by decide +kernel
theorem dX10_sensitive_38 : decode cX10_sensitive 38 = .ok (.goto 4, 3) := by decide +kernel
theorem dX10_sensitive_41 : decode cX10_sensitive 41 = .ok (.iconst 0, 1) := by decide +kernel
theorem dX10_sensitive_42 : decode cX10_sensitive 42 = .ok (.iadd, 1) := by decide +kernel
theorem dX10_sensitive_43 : decode cX10_sensitive 43 = .ok (.istore_n 3, 1) := by decide +kernel
theorem dX10_sensitive_44 : decode cX10_sensitive 44 = .ok (.iinc 4 1, 3) := by decide +kernel
theorem dX10_sensitive_47 : decode cX10_sensitive 47 = .ok (.goto (-42), 3) := by decide +kernel
theorem dX10_sensitive_50 : decode cX10_sensitive 50 = .ok (.iload_n 3, 1) := by decide +kernel
theorem dX10_sensitive_51 : decode cX10_sensitive 51 = .ok (.ireturn, 1) := by decide +kernel
abbrev rmX10_sensitive : Room := { frames := 1, cells := 0, slots := 0, locals := 22 }
theorem yd_X10_sensitive : yX10_sensitive.cls = RX10 ∧ yX10_sensitive.cls ≠ "java/lang/invoke/MethodHandle" ∧ yX10_sensitive.cls ≠ "java/lang/invoke/VarHandle" ∧ (parseMethodDescriptor yX10_sensitive.desc).map (fun d => d.parameters.length) = some 2 := by decide +kernel
def fX10_sensitive_L5_J42 (r : RS) (l1 : Int32) (l2 : Int32) (l4 : Int32) (s0 : Int32) (s1 : Int32) : Option ((Int32 × Int32) ⊕ Int32) :=
  some (.inl ((s1 + s0), (l4 + (1 : Int32))))
def fX10_sensitive_L5 (r : RS) (l1 : Int32) (l2 : Int32) (l3 : Int32) (l4 : Int32) : Option ((Int32 × Int32) ⊕ Int32) :=
  (aI 16 (r.2.1 0) l1).bind fun v1 =>
  if v1 ≤ l4 then
    some (.inr l3)
  else
    (fX10_say0 r l1 (l2 ^^^ ((1 : Int32) <<< (l4 &&& 31)))).bind fun q2 =>
    (fX10_say0 r l1 l2).bind fun q3 =>
    if q2 = q3 then
      fX10_sensitive_L5_J42 r l1 l2 l4 (0 : Int32) l3
    else
      fX10_sensitive_L5_J42 r l1 l2 l4 (1 : Int32) l3
def fX10_sensitive (r : RS) (a1 : Int32) (a2 : Int32) : Option (Int32) :=
  (lpN (fun u => fX10_sensitive_L5 r a1 a2 u.1 u.2) bigN ((0 : Int32), (0 : Int32))).bind fun e4 =>
  some e4
set_option maxHeartbeats 4000000 in
set_option maxRecDepth 100000 in
theorem tX10_sensitive_L5 {κ : KK} {p : Program} {l : Launch} {e : Env} {s : State} {m : MethodId} {args : Array Value} {below : List Frame} {meth : Method} {c : Code} (C : Cx κ p s m args meth c cX10_sensitive 5 RX10 (some .int)) {o : Nat} {v : Option Value} {B' : Heap → Prop} {r : RS} {l1 : Int32} {l2 : Int32} {l3 : Int32} {l4 : Int32} {y : (Int32 × Int32) ⊕ Int32} (h : fX10_sensitive_L5 r l1 l2 l3 l4 = some y) (kc : ∀ u, y = .inl u → GR κ p l e s m args below meth c rmX10_sensitive 5 o v B' r 5 [(0, .ref o), (1, .int l1), (2, .int l2), (3, .int u.1), (4, .int u.2)] []) (kx : ∀ w, y = .inr w → GR κ p l e s m args below meth c rmX10_sensitive 5 o v B' r 50 [(3, .int w)] []) : GR κ p l e s m args below meth c rmX10_sensitive 5 o v B' r 5 [(0, .ref o), (1, .int l1), (2, .int l2), (3, .int l3), (4, .int l4)] [] := by
  have J42 : ∀ (l4 : Int32) (s0 : Int32) (s1 : Int32), fX10_sensitive_L5_J42 r l1 l2 l4 s0 s1 = some y → GR κ p l e s m args below meth c rmX10_sensitive 5 o v B' r 42 [(0, .ref o), (1, .int l1), (2, .int l2), (4, .int l4)] [.int s0, .int s1] := by
    intro l4 s0 s1 h
    unfold fX10_sensitive_L5_J42 at h
    refine G_iadd (pc' := 43) C dX10_sensitive_42 rfl ?_
    refine G_istore_n (pc' := 44) C dX10_sensitive_43 [(3, .int (s1 + s0)), (0, .ref o), (1, .int l1), (2, .int l2), (4, .int l4)] (by decide) rfl rfl ?_
    refine G_iinc (pc' := 47) C dX10_sensitive_44 4 rfl rfl [(4, .int (l4 + (1 : Int32))), (3, .int (s1 + s0)), (0, .ref o), (1, .int l1), (2, .int l2)] (by decide) rfl rfl ?_
    refine G_goto (tgt := 5) C dX10_sensitive_47 (by decide) ?_
    exact G_sub [2, 3, 4, 1, 0] rfl (kc _ (Option.some.inj h).symm)
  unfold fX10_sensitive_L5 at h
  refine G_iload (pc' := 7) C dX10_sensitive_5 4 rfl rfl ?_
  refine G_aload_n (pc' := 8) C dX10_sensitive_7 0 rfl rfl ?_
  refine R_g_bits (pc' := 11) C dX10_sensitive_8 rfl ?_
  refine G_iload_n (pc' := 12) C dX10_sensitive_11 1 rfl rfl ?_
  obtain ⟨v1, hv1, h⟩ := ob h
  refine R_l_bits (pc' := 13) C dX10_sensitive_12 hv1 rfl ?_
  refine G_icmp_ge (tgt := 50) (pc' := 16) C dX10_sensitive_13 (by decide) rfl (fun hc => ?_) (fun hc => ?_)
  · replace h := z_ip hc h
    exact G_sub [3] rfl (kx _ (Option.some.inj h).symm)
  · replace h := z_in hc h
    refine G_iload_n (pc' := 17) C dX10_sensitive_16 3 rfl rfl ?_
    refine G_aload_n (pc' := 18) C dX10_sensitive_17 0 rfl rfl ?_
    refine G_iload_n (pc' := 19) C dX10_sensitive_18 1 rfl rfl ?_
    refine G_iload_n (pc' := 20) C dX10_sensitive_19 2 rfl rfl ?_
    refine G_iconst (pc' := 21) (v := (1 : Int32)) C dX10_sensitive_20 (by decide) rfl ?_
    refine G_iload (pc' := 23) C dX10_sensitive_21 4 rfl rfl ?_
    refine G_ishl (pc' := 24) C dX10_sensitive_23 rfl ?_
    refine G_ixor (pc' := 25) C dX10_sensitive_24 rfl ?_
    obtain ⟨q2, hq2, h⟩ := ob h
    refine G_cV0 (pc' := 28) C dX10_sensitive_25 (tX10_say0 κ l o r l1 (l2 ^^^ ((1 : Int32) <<< (l4 &&& 31))) q2 hq2) (wV tw_ml_X10_123 tw_im_X10_say0 tw_se_X10_X10_say0 tw_in_X10 tw_co_X10_say0) yd_X10_say0 rfl fi_X10 (RB_rd 0 rfl) rfl rfl (by decide) rfl (Nat.le_of_ble_eq_true rfl) rfl rfl ?_
    refine G_aload_n (pc' := 29) C dX10_sensitive_28 0 rfl rfl ?_
    refine G_iload_n (pc' := 30) C dX10_sensitive_29 1 rfl rfl ?_
    refine G_iload_n (pc' := 31) C dX10_sensitive_30 2 rfl rfl ?_
    obtain ⟨q3, hq3, h⟩ := ob h
    refine G_cV0 (pc' := 34) C dX10_sensitive_31 (tX10_say0 κ l o r l1 l2 q3 hq3) (wV tw_ml_X10_123 tw_im_X10_say0 tw_se_X10_X10_say0 tw_in_X10 tw_co_X10_say0) yd_X10_say0 rfl fi_X10 (RB_rd 0 rfl) rfl rfl (by decide) rfl (Nat.le_of_ble_eq_true rfl) rfl rfl ?_
    refine G_icmp_eq (tgt := 41) (pc' := 37) C dX10_sensitive_34 (by decide) rfl (fun hc => ?_) (fun hc => ?_)
    · replace h := z_ip hc h
      refine G_iconst (pc' := 42) (v := (0 : Int32)) C dX10_sensitive_41 (by decide) rfl ?_
      exact G_sub [0, 1, 2, 4] rfl (J42 l4 (0 : Int32) l3 h)
    · replace h := z_in hc h
      refine G_iconst (pc' := 38) (v := (1 : Int32)) C dX10_sensitive_37 (by decide) rfl ?_
      refine G_goto (tgt := 42) C dX10_sensitive_38 (by decide) ?_
      exact G_sub [0, 1, 2, 4] rfl (J42 l4 (1 : Int32) l3 h)
set_option maxHeartbeats 4000000 in
set_option maxRecDepth 100000 in
theorem tX10_sensitive (κ : KK) (l : Launch) (o : Nat) (r : RS) (a1 : Int32) (a2 : Int32) (q : Int32) (h : fX10_sensitive r a1 a2 = some q) : MM κ l yX10_sensitive cX10_sensitive 5 (some .int) rmX10_sensitive (RA o) [.ref o, .int a1, .int a2] (RB κ o r) (some (Value.int q)) (RB κ o r) := by
  refine MM.of (by decide +kernel) (Nat.le_of_ble_eq_true rfl) ?_
  intro p e s m below meth c C hnm
  unfold fX10_sensitive at h
  refine G_sub (lv' := [(0, .ref o), (1, .int a1), (2, .int a2)]) [0, 1, 2] rfl ?_
  refine G_iconst (pc' := 1) (v := (0 : Int32)) C dX10_sensitive_0 (by decide) rfl ?_
  refine G_istore_n (pc' := 2) C dX10_sensitive_1 [(3, .int (0 : Int32)), (0, .ref o), (1, .int a1), (2, .int a2)] (by decide) rfl rfl ?_
  refine G_iconst (pc' := 3) (v := (0 : Int32)) C dX10_sensitive_2 (by decide) rfl ?_
  refine G_istore (pc' := 5) C dX10_sensitive_3 [(4, .int (0 : Int32)), (3, .int (0 : Int32)), (0, .ref o), (1, .int a1), (2, .int a2)] (by decide) rfl rfl ?_
  obtain ⟨e4, hle4, h⟩ := ob h
  refine G_sub (lv' := [(0, .ref o), (1, .int a1), (2, .int a2), (3, .int (0 : Int32)), (4, .int (0 : Int32))]) [2, 3, 4, 1, 0] rfl ?_
  refine lpN_ind (body := fun u => fX10_sensitive_L5 r a1 a2 u.1 u.2) (P := fun u => GR κ p l e s m ([.ref o, .int a1, .int a2] : List Value).toArray below meth c rmX10_sensitive 5 o (some (Value.int q)) (RB κ o r) r 5 [(0, .ref o), (1, .int a1), (2, .int a2), (3, .int u.1), (4, .int u.2)] []) (X := fun w => GR κ p l e s m ([.ref o, .int a1, .int a2] : List Value).toArray below meth c rmX10_sensitive 5 o (some (Value.int q)) (RB κ o r) r 50 [(3, .int w)] []) (fun u y hb kc kx => tX10_sensitive_L5 C hb kc kx) _ _ _ hle4 ?_
  refine G_iload_n (pc' := 51) C dX10_sensitive_50 0 rfl rfl ?_
  obtain rfl := Option.some.inj h
  exact G_iret C dX10_sensitive_51 (fun _ h => h)
theorem dX10_blocks_0 : decode cX10_blocks 0 = .ok (.iconst 0, 1) := by decide +kernel
theorem dX10_blocks_1 : decode cX10_blocks 1 = .ok (.istore_n 3, 1) := by decide +kernel
theorem dX10_blocks_2 : decode cX10_blocks 2 = .ok (.iload_n 3, 1) := by decide +kernel
theorem dX10_blocks_3 : decode cX10_blocks 3 = .ok (.aload_n 0, 1) := by decide +kernel
theorem dX10_blocks_4 : decode cX10_blocks 4 = .ok (.iload_n 1, 1) := by decide +kernel
theorem dX10_blocks_5 : decode cX10_blocks 5 = .ok (.invokevirtual 119, 3) := by decide +kernel
theorem dX10_blocks_8 : decode cX10_blocks 8 = .ok (.if_icmp .ge 101, 3) := by decide +kernel
theorem dX10_blocks_11 : decode cX10_blocks 11 = .ok (.aload_n 0, 1) := by decide +kernel
theorem dX10_blocks_12 : decode cX10_blocks 12 = .ok (.getfield 90, 3) := by decide +kernel
theorem dX10_blocks_15 : decode cX10_blocks 15 = .ok (.iload_n 3, 1) := by decide +kernel
theorem dX10_blocks_16 : decode cX10_blocks 16 = .ok (.iconst 0, 1) := by decide +kernel
theorem dX10_blocks_17 : decode cX10_blocks 17 = .ok (.iastore, 1) := by decide +kernel
theorem dX10_blocks_18 : decode cX10_blocks 18 = .ok (.iconst 1, 1) := by decide +kernel
theorem dX10_blocks_19 : decode cX10_blocks 19 = .ok (.istore 4, 2) := by decide +kernel
theorem dX10_blocks_21 : decode cX10_blocks 21 = .ok (.iload 4, 2) := by decide +kernel
theorem dX10_blocks_23 : decode cX10_blocks 23 = .ok (.iload_n 3, 1) := by decide +kernel
theorem dX10_blocks_24 : decode cX10_blocks 24 = .ok (.if_icmp .gt 79, 3) := by decide +kernel
theorem dX10_blocks_27 : decode cX10_blocks 27 = .ok (.iload 4, 2) := by decide +kernel
theorem dX10_blocks_29 : decode cX10_blocks 29 = .ok (.iload_n 3, 1) := by decide +kernel
theorem dX10_blocks_30 : decode cX10_blocks 30 = .ok (.iconst (-1), 1) := by decide +kernel
theorem dX10_blocks_31 : decode cX10_blocks 31 = .ok (.ixor, 1) := by decide +kernel
theorem dX10_blocks_32 : decode cX10_blocks 32 = .ok (.iand, 1) := by decide +kernel
theorem dX10_blocks_33 : decode cX10_blocks 33 = .ok (.ifCond .ne 64, 3) := by decide +kernel
theorem dX10_blocks_36 : decode cX10_blocks 36 = .ok (.aload_n 0, 1) := by decide +kernel
theorem dX10_blocks_37 : decode cX10_blocks 37 = .ok (.iload_n 1, 1) := by decide +kernel
theorem dX10_blocks_38 : decode cX10_blocks 38 = .ok (.iload_n 2, 1) := by decide +kernel
theorem dX10_blocks_39 : decode cX10_blocks 39 = .ok (.iload 4, 2) := by decide +kernel
theorem dX10_blocks_41 : decode cX10_blocks 41 = .ok (.ixor, 1) := by decide +kernel
theorem dX10_blocks_42 : decode cX10_blocks 42 = .ok (.invokevirtual 123, 3) := by decide +kernel
theorem dX10_blocks_45 : decode cX10_blocks 45 = .ok (.aload_n 0, 1) := by decide +kernel
theorem dX10_blocks_46 : decode cX10_blocks 46 = .ok (.iload_n 1, 1) := by decide +kernel
theorem dX10_blocks_47 : decode cX10_blocks 47 = .ok (.iload_n 2, 1) := by decide +kernel
theorem dX10_blocks_48 : decode cX10_blocks 48 = .ok (.invokevirtual 123, 3) := by decide +kernel
theorem dX10_blocks_51 : decode cX10_blocks 51 = .ok (.if_icmp .eq 46, 3) := by decide +kernel
theorem dX10_blocks_54 : decode cX10_blocks 54 = .ok (.iconst 1, 1) := by decide +kernel
theorem dX10_blocks_55 : decode cX10_blocks 55 = .ok (.aload_n 0, 1) := by decide +kernel
theorem dX10_blocks_56 : decode cX10_blocks 56 = .ok (.getfield 90, 3) := by decide +kernel
theorem dX10_blocks_59 : decode cX10_blocks 59 = .ok (.iload_n 3, 1) := by decide +kernel
theorem dX10_blocks_60 : decode cX10_blocks 60 = .ok (.iload 4, 2) := by decide +kernel
theorem dX10_blocks_62 : decode cX10_blocks 62 = .ok (.iconst (-1), 1) := by decide +kernel
theorem dX10_blocks_63 : decode cX10_blocks 63 = .ok (.ixor, 1) := by decide +kernel
theorem dX10_blocks_64 : decode cX10_blocks 64 = .ok (.iand, 1) := by decide +kernel
theorem dX10_blocks_65 : decode cX10_blocks 65 = .ok (.iaload, 1) := by decide +kernel
theorem dX10_blocks_66 : decode cX10_blocks 66 = .ok (.iadd, 1) := by decide +kernel
theorem dX10_blocks_67 : decode cX10_blocks 67 = .ok (.istore 5, 2) := by decide +kernel
theorem dX10_blocks_69 : decode cX10_blocks 69 = .ok (.aload_n 0, 1) := by decide +kernel
theorem dX10_blocks_70 : decode cX10_blocks 70 = .ok (.getfield 90, 3) := by decide +kernel
theorem dX10_blocks_73 : decode cX10_blocks 73 = .ok (.iload_n 3, 1) := by decide +kernel
theorem dX10_blocks_74 : decode cX10_blocks 74 = .ok (.iload 5, 2) := by decide +kernel
theorem dX10_blocks_76 : decode cX10_blocks 76 = .ok (.aload_n 0, 1) := by decide +kernel
theorem dX10_blocks_77 : decode cX10_blocks 77 = .ok (.getfield 90, 3) := by decide +kernel
theorem dX10_blocks_80 : decode cX10_blocks 80 = .ok (.iload_n 3, 1) := by decide +kernel
theorem dX10_blocks_81 : decode cX10_blocks 81 = .ok (.iaload, 1) := by decide +kernel
theorem dX10_blocks_82 : decode cX10_blocks 82 = .ok (.if_icmp .le 8, 3) := by decide +kernel
theorem dX10_blocks_85 : decode cX10_blocks 85 = .ok (.iload 5, 2) := by decide +kernel
theorem dX10_blocks_87 : decode cX10_blocks 87 = .ok (.goto 9, 3) := by decide +kernel
theorem dX10_blocks_90 : decode cX10_blocks 90 = .ok (.aload_n 0, 1) := by decide +kernel
theorem dX10_blocks_91 : decode cX10_blocks 91 = .ok (.getfield 90, 3) := by decide +kernel
theorem dX10_blocks_94 : decode cX10_blocks 94 = .ok (.iload_n 3, 1) := by decide +kernel
theorem dX10_blocks_95 : decode cX10_blocks 95 = .ok (.iaload, 1) := by decide +kernel
theorem dX10_blocks_96 : decode cX10_blocks 96 = .ok (.iastore, 1) := by decide +kernel
theorem dX10_blocks_97 : decode cX10_blocks 97 = .ok (.iinc 4 1, 3) := by decide +kernel
theorem dX10_blocks_100 : decode cX10_blocks 100 = .ok (.goto (-79), 3) := by decide +kernel
theorem dX10_blocks_103 : decode cX10_blocks 103 = .ok (.iinc 3 1, 3) := by decide +kernel
theorem dX10_blocks_106 : decode cX10_blocks 106 = .ok (.goto (-104), 3) := by decide +kernel
theorem dX10_blocks_109 : decode cX10_blocks 109 = .ok (.aload_n 0, 1) := by decide +kernel
theorem dX10_blocks_110 : decode cX10_blocks 110 = .ok (.getfield 90, 3) := by decide +kernel
theorem dX10_blocks_113 : decode cX10_blocks 113 = .ok (.aload_n 0, 1) := by decide +kernel
theorem dX10_blocks_114 : decode cX10_blocks 114 = .ok (.iload_n 1, 1) := by decide +kernel
theorem dX10_blocks_115 : decode cX10_blocks 115 = .ok (.invokevirtual 119, 3) := by decide +kernel
theorem dX10_blocks_118 : decode cX10_blocks 118 = .ok (.iconst 1, 1) := by decide +kernel
theorem dX10_blocks_119 : decode cX10_blocks 119 = .ok (.isub, 1) := by decide +kernel
theorem dX10_blocks_120 : decode cX10_blocks 120 = .ok (.iaload, 1) := by decide +kernel
theorem dX10_blocks_121 : decode cX10_blocks 121 = .ok (.ireturn, 1) := by decide +kernel
abbrev rmX10_blocks : Room := { frames := 1, cells := 0, slots := 0, locals := 22 }
theorem yd_X10_blocks : yX10_blocks.cls = RX10 ∧ yX10_blocks.cls ≠ "java/lang/invoke/MethodHandle" ∧ yX10_blocks.cls ≠ "java/lang/invoke/VarHandle" ∧ (parseMethodDescriptor yX10_blocks.desc).map (fun d => d.parameters.length) = some 2 := by decide +kernel
def fX10_blocks_L21_J97 (r : RS) (l1 : Int32) (l2 : Int32) (l3 : Int32) (l4 : Int32) : Option ((Int32 × RS) ⊕ RS) :=
  some (.inl ((l4 + (1 : Int32)), r))
def fX10_blocks_L21_J96 (r : RS) (l1 : Int32) (l2 : Int32) (l3 : Int32) (l4 : Int32) (s0 : Int32) (s1 : Int32) : Option ((Int32 × RS) ⊕ RS) :=
  (sA r 24 256 s1 s0).bind fun r8 =>
  fX10_blocks_L21_J97 r8 l1 l2 l3 l4
def fX10_blocks_L21 (r : RS) (l1 : Int32) (l2 : Int32) (l3 : Int32) (l4 : Int32) : Option ((Int32 × RS) ⊕ RS) :=
  if l3 < l4 then
    some (.inr r)
  else
    if (l4 &&& (l3 ^^^ (-1 : Int32))) = 0 then
      (fX10_say0 r l1 (l2 ^^^ l4)).bind fun q3 =>
      (fX10_say0 r l1 l2).bind fun q4 =>
      if q3 = q4 then
        fX10_blocks_L21_J97 r l1 l2 l3 l4
      else
        (aI 256 (r.2.1 24) (l3 &&& (l4 ^^^ (-1 : Int32)))).bind fun v5 =>
        (aI 256 (r.2.1 24) l3).bind fun v6 =>
        if ((1 : Int32) + v5) ≤ v6 then
          (aI 256 (r.2.1 24) l3).bind fun v7 =>
          fX10_blocks_L21_J96 r l1 l2 l3 l4 v7 l3
        else
          fX10_blocks_L21_J96 r l1 l2 l3 l4 ((1 : Int32) + v5) l3
    else
      fX10_blocks_L21_J97 r l1 l2 l3 l4
def fX10_blocks_L2 (r : RS) (l1 : Int32) (l2 : Int32) (l3 : Int32) : Option ((Int32 × RS) ⊕ RS) :=
  (fX10_inputs r l1).bind fun q1 =>
  if q1 ≤ l3 then
    some (.inr r)
  else
    (sA r 24 256 l3 (0 : Int32)).bind fun r2 =>
    (lpN (fun u => fX10_blocks_L21 u.2 l1 l2 l3 u.1) bigN ((1 : Int32), r2)).bind fun e9 =>
    some (.inl ((l3 + (1 : Int32)), e9))
def fX10_blocks (r : RS) (a1 : Int32) (a2 : Int32) : Option (Int32 × RS) :=
  (lpN (fun u => fX10_blocks_L2 u.2 a1 a2 u.1) bigN ((0 : Int32), r)).bind fun e10 =>
  (fX10_inputs e10 a1).bind fun q11 =>
  (aI 256 (e10.2.1 24) (q11 - (1 : Int32))).bind fun v12 =>
  some (v12, e10)
set_option maxHeartbeats 4000000 in
set_option maxRecDepth 100000 in
theorem tX10_blocks_L21 {κ : KK} {p : Program} {l : Launch} {e : Env} {s : State} {m : MethodId} {args : Array Value} {below : List Frame} {meth : Method} {c : Code} (C : Cx κ p s m args meth c cX10_blocks 6 RX10 (some .int)) {o : Nat} {v : Option Value} {B' : Heap → Prop} {r : RS} {l1 : Int32} {l2 : Int32} {l3 : Int32} {l4 : Int32} {y : (Int32 × RS) ⊕ RS} (h : fX10_blocks_L21 r l1 l2 l3 l4 = some y) (kc : ∀ u, y = .inl u → GR κ p l e s m args below meth c rmX10_blocks 6 o v B' u.2 21 [(0, .ref o), (1, .int l1), (2, .int l2), (3, .int l3), (4, .int u.1)] []) (kx : ∀ w, y = .inr w → GR κ p l e s m args below meth c rmX10_blocks 6 o v B' w 103 [(0, .ref o), (1, .int l1), (2, .int l2), (3, .int l3)] []) : GR κ p l e s m args below meth c rmX10_blocks 6 o v B' r 21 [(0, .ref o), (1, .int l1), (2, .int l2), (3, .int l3), (4, .int l4)] [] := by
  have J97 : ∀ (r : RS) (l4 : Int32), fX10_blocks_L21_J97 r l1 l2 l3 l4 = some y → GR κ p l e s m args below meth c rmX10_blocks 6 o v B' r 97 [(0, .ref o), (1, .int l1), (2, .int l2), (3, .int l3), (4, .int l4)] [] := by
    intro r l4 h
    unfold fX10_blocks_L21_J97 at h
    refine G_iinc (pc' := 100) C dX10_blocks_97 4 rfl rfl [(4, .int (l4 + (1 : Int32))), (0, .ref o), (1, .int l1), (2, .int l2), (3, .int l3)] (by decide) rfl rfl ?_
    refine G_goto (tgt := 21) C dX10_blocks_100 (by decide) ?_
    exact G_sub [1, 2, 3, 4, 0] rfl (kc _ (Option.some.inj h).symm)
  have J96 : ∀ (r : RS) (l4 : Int32) (s0 : Int32) (s1 : Int32), fX10_blocks_L21_J96 r l1 l2 l3 l4 s0 s1 = some y → GR κ p l e s m args below meth c rmX10_blocks 6 o v B' r 96 [(0, .ref o), (1, .int l1), (2, .int l2), (3, .int l3), (4, .int l4)] [.int s0, .int s1, .ref (o + 25)] := by
    intro r l4 s0 s1 h
    unfold fX10_blocks_L21_J96 at h
    obtain ⟨r8, hr8, h⟩ := ob h
    refine R_s_blocks (pc' := 97) C dX10_blocks_96 hr8 rfl ?_
    exact G_sub [0, 1, 2, 3, 4] rfl (J97 r8 l4 h)
  unfold fX10_blocks_L21 at h
  refine G_iload (pc' := 23) C dX10_blocks_21 4 rfl rfl ?_
  refine G_iload_n (pc' := 24) C dX10_blocks_23 3 rfl rfl ?_
  refine G_icmp_gt (tgt := 103) (pc' := 27) C dX10_blocks_24 (by decide) rfl (fun hc => ?_) (fun hc => ?_)
  · replace h := z_ip hc h
    exact G_sub [0, 1, 2, 3] rfl (kx _ (Option.some.inj h).symm)
  · replace h := z_in hc h
    refine G_iload (pc' := 29) C dX10_blocks_27 4 rfl rfl ?_
    refine G_iload_n (pc' := 30) C dX10_blocks_29 3 rfl rfl ?_
    refine G_iconst (pc' := 31) (v := (-1 : Int32)) C dX10_blocks_30 (by decide) rfl ?_
    refine G_ixor (pc' := 32) C dX10_blocks_31 rfl ?_
    refine G_iand (pc' := 33) C dX10_blocks_32 rfl ?_
    refine G_if_ne (tgt := 97) (pc' := 36) C dX10_blocks_33 (by decide) rfl (fun hc => ?_) (fun hc => ?_)
    · replace h := z_in hc h
      exact G_sub [0, 1, 2, 3, 4] rfl (J97 r l4 h)
    · replace h := z_ip hc h
      refine G_aload_n (pc' := 37) C dX10_blocks_36 0 rfl rfl ?_
      refine G_iload_n (pc' := 38) C dX10_blocks_37 1 rfl rfl ?_
      refine G_iload_n (pc' := 39) C dX10_blocks_38 2 rfl rfl ?_
      refine G_iload (pc' := 41) C dX10_blocks_39 4 rfl rfl ?_
      refine G_ixor (pc' := 42) C dX10_blocks_41 rfl ?_
      obtain ⟨q3, hq3, h⟩ := ob h
      refine G_cV0 (pc' := 45) C dX10_blocks_42 (tX10_say0 κ l o r l1 (l2 ^^^ l4) q3 hq3) (wV tw_ml_X10_123 tw_im_X10_say0 tw_se_X10_X10_say0 tw_in_X10 tw_co_X10_say0) yd_X10_say0 rfl fi_X10 (RB_rd 0 rfl) rfl rfl (by decide) rfl (Nat.le_of_ble_eq_true rfl) rfl rfl ?_
      refine G_aload_n (pc' := 46) C dX10_blocks_45 0 rfl rfl ?_
      refine G_iload_n (pc' := 47) C dX10_blocks_46 1 rfl rfl ?_
      refine G_iload_n (pc' := 48) C dX10_blocks_47 2 rfl rfl ?_
      obtain ⟨q4, hq4, h⟩ := ob h
      refine G_cV0 (pc' := 51) C dX10_blocks_48 (tX10_say0 κ l o r l1 l2 q4 hq4) (wV tw_ml_X10_123 tw_im_X10_say0 tw_se_X10_X10_say0 tw_in_X10 tw_co_X10_say0) yd_X10_say0 rfl fi_X10 (RB_rd 0 rfl) rfl rfl (by decide) rfl (Nat.le_of_ble_eq_true rfl) rfl rfl ?_
      refine G_icmp_eq (tgt := 97) (pc' := 54) C dX10_blocks_51 (by decide) rfl (fun hc => ?_) (fun hc => ?_)
      · replace h := z_ip hc h
        exact G_sub [0, 1, 2, 3, 4] rfl (J97 r l4 h)
      · replace h := z_in hc h
        refine G_iconst (pc' := 55) (v := (1 : Int32)) C dX10_blocks_54 (by decide) rfl ?_
        refine G_aload_n (pc' := 56) C dX10_blocks_55 0 rfl rfl ?_
        refine R_g_blocks (pc' := 59) C dX10_blocks_56 rfl ?_
        refine G_iload_n (pc' := 60) C dX10_blocks_59 3 rfl rfl ?_
        refine G_iload (pc' := 62) C dX10_blocks_60 4 rfl rfl ?_
        refine G_iconst (pc' := 63) (v := (-1 : Int32)) C dX10_blocks_62 (by decide) rfl ?_
        refine G_ixor (pc' := 64) C dX10_blocks_63 rfl ?_
        refine G_iand (pc' := 65) C dX10_blocks_64 rfl ?_
        obtain ⟨v5, hv5, h⟩ := ob h
        refine R_l_blocks (pc' := 66) C dX10_blocks_65 hv5 rfl ?_
        refine G_iadd (pc' := 67) C dX10_blocks_66 rfl ?_
        refine G_istore (pc' := 69) C dX10_blocks_67 [(5, .int ((1 : Int32) + v5)), (0, .ref o), (1, .int l1), (2, .int l2), (3, .int l3), (4, .int l4)] (by decide) rfl rfl ?_
        refine G_aload_n (pc' := 70) C dX10_blocks_69 1 rfl rfl ?_
        refine R_g_blocks (pc' := 73) C dX10_blocks_70 rfl ?_
        refine G_iload_n (pc' := 74) C dX10_blocks_73 4 rfl rfl ?_
        refine G_iload (pc' := 76) C dX10_blocks_74 0 rfl rfl ?_
        refine G_aload_n (pc' := 77) C dX10_blocks_76 1 rfl rfl ?_
        refine R_g_blocks (pc' := 80) C dX10_blocks_77 rfl ?_
        refine G_iload_n (pc' := 81) C dX10_blocks_80 4 rfl rfl ?_
        obtain ⟨v6, hv6, h⟩ := ob h
        refine R_l_blocks (pc' := 82) C dX10_blocks_81 hv6 rfl ?_
        refine G_icmp_le (tgt := 90) (pc' := 85) C dX10_blocks_82 (by decide) rfl (fun hc => ?_) (fun hc => ?_)
        · replace h := z_ip hc h
          refine G_aload_n (pc' := 91) C dX10_blocks_90 1 rfl rfl ?_
          refine R_g_blocks (pc' := 94) C dX10_blocks_91 rfl ?_
          refine G_iload_n (pc' := 95) C dX10_blocks_94 4 rfl rfl ?_
          obtain ⟨v7, hv7, h⟩ := ob h
          refine R_l_blocks (pc' := 96) C dX10_blocks_95 hv7 rfl ?_
          exact G_sub [1, 2, 3, 4, 5] rfl (J96 r l4 v7 l3 h)
        · replace h := z_in hc h
          refine G_iload (pc' := 87) C dX10_blocks_85 0 rfl rfl ?_
          refine G_goto (tgt := 96) C dX10_blocks_87 (by decide) ?_
          exact G_sub [1, 2, 3, 4, 5] rfl (J96 r l4 ((1 : Int32) + v5) l3 h)
set_option maxHeartbeats 4000000 in
set_option maxRecDepth 100000 in
theorem tX10_blocks_L2 {κ : KK} {p : Program} {l : Launch} {e : Env} {s : State} {m : MethodId} {args : Array Value} {below : List Frame} {meth : Method} {c : Code} (C : Cx κ p s m args meth c cX10_blocks 6 RX10 (some .int)) {o : Nat} {v : Option Value} {B' : Heap → Prop} {r : RS} {l1 : Int32} {l2 : Int32} {l3 : Int32} {y : (Int32 × RS) ⊕ RS} (h : fX10_blocks_L2 r l1 l2 l3 = some y) (kc : ∀ u, y = .inl u → GR κ p l e s m args below meth c rmX10_blocks 6 o v B' u.2 2 [(0, .ref o), (1, .int l1), (2, .int l2), (3, .int u.1)] []) (kx : ∀ w, y = .inr w → GR κ p l e s m args below meth c rmX10_blocks 6 o v B' w 109 [(0, .ref o), (1, .int l1)] []) : GR κ p l e s m args below meth c rmX10_blocks 6 o v B' r 2 [(0, .ref o), (1, .int l1), (2, .int l2), (3, .int l3)] [] := by
  unfold fX10_blocks_L2 at h
  refine G_iload_n (pc' := 3) C dX10_blocks_2 3 rfl rfl ?_
  refine G_aload_n (pc' := 4) C dX10_blocks_3 0 rfl rfl ?_
  refine G_iload_n (pc' := 5) C dX10_blocks_4 1 rfl rfl ?_
  obtain ⟨q1, hq1, h⟩ := ob h
  refine G_cV0 (pc' := 8) C dX10_blocks_5 (tX10_inputs κ l o r l1 q1 hq1) (wV tw_ml_X10_119 tw_im_X10_inputs tw_se_X10_X10_inputs tw_in_X10 tw_co_X10_inputs) yd_X10_inputs rfl fi_X10 (RB_rd 0 rfl) rfl rfl (by decide) rfl (Nat.le_of_ble_eq_true rfl) rfl rfl ?_
  refine G_icmp_ge (tgt := 109) (pc' := 11) C dX10_blocks_8 (by decide) rfl (fun hc => ?_) (fun hc => ?_)
  · replace h := z_ip hc h
    exact G_sub [0, 1] rfl (kx _ (Option.some.inj h).symm)
  · replace h := z_in hc h
    refine G_aload_n (pc' := 12) C dX10_blocks_11 0 rfl rfl ?_
    refine R_g_blocks (pc' := 15) C dX10_blocks_12 rfl ?_
    refine G_iload_n (pc' := 16) C dX10_blocks_15 3 rfl rfl ?_
    refine G_iconst (pc' := 17) (v := (0 : Int32)) C dX10_blocks_16 (by decide) rfl ?_
    obtain ⟨r2, hr2, h⟩ := ob h
    refine R_s_blocks (pc' := 18) C dX10_blocks_17 hr2 rfl ?_
    refine G_iconst (pc' := 19) (v := (1 : Int32)) C dX10_blocks_18 (by decide) rfl ?_
    refine G_istore (pc' := 21) C dX10_blocks_19 [(4, .int (1 : Int32)), (0, .ref o), (1, .int l1), (2, .int l2), (3, .int l3)] (by decide) rfl rfl ?_
    obtain ⟨e9, hle9, h⟩ := ob h
    refine G_sub (lv' := [(0, .ref o), (1, .int l1), (2, .int l2), (3, .int l3), (4, .int (1 : Int32))]) [1, 2, 3, 4, 0] rfl ?_
    refine lpN_ind (body := fun u => fX10_blocks_L21 u.2 l1 l2 l3 u.1) (P := fun u => GR κ p l e s m args below meth c rmX10_blocks 6 o v B' u.2 21 [(0, .ref o), (1, .int l1), (2, .int l2), (3, .int l3), (4, .int u.1)] []) (X := fun w => GR κ p l e s m args below meth c rmX10_blocks 6 o v B' w 103 [(0, .ref o), (1, .int l1), (2, .int l2), (3, .int l3)] []) (fun u y hb kc kx => tX10_blocks_L21 C hb kc kx) _ _ _ hle9 ?_
    refine G_iinc (pc' := 106) C dX10_blocks_103 3 rfl rfl [(3, .int (l3 + (1 : Int32))), (0, .ref o), (1, .int l1), (2, .int l2)] (by decide) rfl rfl ?_
    refine G_goto (tgt := 2) C dX10_blocks_106 (by decide) ?_
    exact G_sub [1, 2, 3, 0] rfl (kc _ (Option.some.inj h).symm)
set_option maxHeartbeats 4000000 in
set_option maxRecDepth 100000 in
theorem tX10_blocks (κ : KK) (l : Launch) (o : Nat) (r : RS) (a1 : Int32) (a2 : Int32) (q : Int32 × RS) (h : fX10_blocks r a1 a2 = some q) : MM κ l yX10_blocks cX10_blocks 6 (some .int) rmX10_blocks (RA o) [.ref o, .int a1, .int a2] (RB κ o r) (some (Value.int q.1)) (RB κ o q.2) := by
  refine MM.of (by decide +kernel) (Nat.le_of_ble_eq_true rfl) ?_
  intro p e s m below meth c C hnm
  unfold fX10_blocks at h
  refine G_sub (lv' := [(0, .ref o), (1, .int a1), (2, .int a2)]) [0, 1, 2] rfl ?_
  refine G_iconst (pc' := 1) (v := (0 : Int32)) C dX10_blocks_0 (by decide) rfl ?_
  refine G_istore_n (pc' := 2) C dX10_blocks_1 [(3, .int (0 : Int32)), (0, .ref o), (1, .int a1), (2, .int a2)] (by decide) rfl rfl ?_
  obtain ⟨e10, hle10, h⟩ := ob h
  refine G_sub (lv' := [(0, .ref o), (1, .int a1), (2, .int a2), (3, .int (0 : Int32))]) [1, 2, 3, 0] rfl ?_
  refine lpN_ind (body := fun u => fX10_blocks_L2 u.2 a1 a2 u.1) (P := fun u => GR κ p l e s m ([.ref o, .int a1, .int a2] : List Value).toArray below meth c rmX10_blocks 6 o (some (Value.int q.1)) (RB κ o q.2) u.2 2 [(0, .ref o), (1, .int a1), (2, .int a2), (3, .int u.1)] []) (X := fun w => GR κ p l e s m ([.ref o, .int a1, .int a2] : List Value).toArray below meth c rmX10_blocks 6 o (some (Value.int q.1)) (RB κ o q.2) w 109 [(0, .ref o), (1, .int a1)] []) (fun u y hb kc kx => tX10_blocks_L2 C hb kc kx) _ _ _ hle10 ?_
  refine G_aload_n (pc' := 110) C dX10_blocks_109 0 rfl rfl ?_
  refine R_g_blocks (pc' := 113) C dX10_blocks_110 rfl ?_
  refine G_aload_n (pc' := 114) C dX10_blocks_113 0 rfl rfl ?_
  refine G_iload_n (pc' := 115) C dX10_blocks_114 1 rfl rfl ?_
  obtain ⟨q11, hq11, h⟩ := ob h
  refine G_cV0 (pc' := 118) C dX10_blocks_115 (tX10_inputs κ l o e10 a1 q11 hq11) (wV tw_ml_X10_119 tw_im_X10_inputs tw_se_X10_X10_inputs tw_in_X10 tw_co_X10_inputs) yd_X10_inputs rfl fi_X10 (RB_rd 0 rfl) rfl rfl (by decide) rfl (Nat.le_of_ble_eq_true rfl) rfl rfl ?_
  refine G_iconst (pc' := 119) (v := (1 : Int32)) C dX10_blocks_118 (by decide) rfl ?_
  refine G_isub (pc' := 120) C dX10_blocks_119 rfl ?_
  obtain ⟨v12, hv12, h⟩ := ob h
  refine R_l_blocks (pc' := 121) C dX10_blocks_120 hv12 rfl ?_
  obtain rfl := Option.some.inj h
  exact G_iret C dX10_blocks_121 (fun _ h => h)
theorem dX10_cubeOf_0 : decode cX10_cubeOf 0 = .ok (.iconst 0, 1) := by decide +kernel
theorem dX10_cubeOf_1 : decode cX10_cubeOf 1 = .ok (.istore 4, 2) := by decide +kernel
theorem dX10_cubeOf_3 : decode cX10_cubeOf 3 = .ok (.iconst 0, 1) := by decide +kernel
theorem dX10_cubeOf_4 : decode cX10_cubeOf 4 = .ok (.istore 5, 2) := by decide +kernel
theorem dX10_cubeOf_6 : decode cX10_cubeOf 6 = .ok (.iload 5, 2) := by decide +kernel
theorem dX10_cubeOf_8 : decode cX10_cubeOf 8 = .ok (.iload_n 3, 1) := by decide +kernel
theorem dX10_cubeOf_9 : decode cX10_cubeOf 9 = .ok (.if_icmp .ge 42, 3) := by decide +kernel
theorem dX10_cubeOf_12 : decode cX10_cubeOf 12 = .ok (.iload 4, 2) := by decide +kernel
theorem dX10_cubeOf_14 : decode cX10_cubeOf 14 = .ok (.iload_n 2, 1) := by decide +kernel
theorem dX10_cubeOf_15 : decode cX10_cubeOf 15 = .ok (.iload 5, 2) := by decide +kernel
theorem dX10_cubeOf_17 : decode cX10_cubeOf 17 = .ok (.ishr, 1) := by decide +kernel
theorem dX10_cubeOf_18 : decode cX10_cubeOf 18 = .ok (.iconst 1, 1) := by decide +kernel
theorem dX10_cubeOf_19 : decode cX10_cubeOf 19 = .ok (.iand, 1) := by decide +kernel
theorem dX10_cubeOf_20 : decode cX10_cubeOf 20 = .ok (.iconst 1, 1) := by decide +kernel
theorem dX10_cubeOf_21 : decode cX10_cubeOf 21 = .ok (.if_icmp .ne 12, 3) := by decide +kernel
theorem dX10_cubeOf_24 : decode cX10_cubeOf 24 = .ok (.iload_n 1, 1) := by decide +kernel
theorem dX10_cubeOf_25 : decode cX10_cubeOf 25 = .ok (.iload 5, 2) := by decide +kernel
theorem dX10_cubeOf_27 : decode cX10_cubeOf 27 = .ok (.ishr, 1) := by decide +kernel
theorem dX10_cubeOf_28 : decode cX10_cubeOf 28 = .ok (.iconst 1, 1) := by decide +kernel
theorem dX10_cubeOf_29 : decode cX10_cubeOf 29 = .ok (.iand, 1) := by decide +kernel
theorem dX10_cubeOf_30 : decode cX10_cubeOf 30 = .ok (.goto 4, 3) := by decide +kernel
theorem dX10_cubeOf_33 : decode cX10_cubeOf 33 = .ok (.iconst 2, 1) := by decide +kernel
theorem dX10_cubeOf_34 : decode cX10_cubeOf 34 = .ok (.aload_n 0, 1) := by decide +kernel
theorem dX10_cubeOf_35 : decode cX10_cubeOf 35 = .ok (.getfield 51, 3) := by decide +kernel
theorem dX10_cubeOf_38 : decode cX10_cubeOf 38 = .ok (.iload 5, 2) := by decide +kernel
theorem dX10_cubeOf_40 : decode cX10_cubeOf 40 = .ok (.iaload, 1) := by decide +kernel
theorem dX10_cubeOf_41 : decode cX10_cubeOf 41 = .ok (.imul, 1) := by decide +kernel
theorem dX10_cubeOf_42 : decode cX10_cubeOf 42 = .ok (.iadd, 1) := by decide +kernel
theorem dX10_cubeOf_43 : decode cX10_cubeOf 43 = .ok (.istore 4, 2) := by decide +kernel
theorem dX10_cubeOf_45 : decode cX10_cubeOf 45 = .ok (.iinc 5 1, 3) := by decide +kernel
theorem dX10_cubeOf_48 : decode cX10_cubeOf 48 = .ok (.goto (-42), 3) := by decide +kernel
theorem dX10_cubeOf_51 : decode cX10_cubeOf 51 = .ok (.iload 4, 2) := by decide +kernel
theorem dX10_cubeOf_53 : decode cX10_cubeOf 53 = .ok (.ireturn, 1) := by decide +kernel
abbrev rmX10_cubeOf : Room := { frames := 0, cells := 0, slots := 0, locals := 0 }
theorem yd_X10_cubeOf : yX10_cubeOf.cls = RX10 ∧ yX10_cubeOf.cls ≠ "java/lang/invoke/MethodHandle" ∧ yX10_cubeOf.cls ≠ "java/lang/invoke/VarHandle" ∧ (parseMethodDescriptor yX10_cubeOf.desc).map (fun d => d.parameters.length) = some 3 := by decide +kernel
def fX10_cubeOf_L6_J34 (r : RS) (l1 : Int32) (l2 : Int32) (l3 : Int32) (l5 : Int32) (s0 : Int32) (s1 : Int32) : Option ((Int32 × Int32) ⊕ Int32) :=
  (aI 9 (r.2.1 11) l5).bind fun v1 =>
  some (.inl ((s1 + (s0 * v1)), (l5 + (1 : Int32))))
def fX10_cubeOf_L6 (r : RS) (l1 : Int32) (l2 : Int32) (l3 : Int32) (l4 : Int32) (l5 : Int32) : Option ((Int32 × Int32) ⊕ Int32) :=
  if l3 ≤ l5 then
    some (.inr l4)
  else
    if ((l2 >>> (l5 &&& 31)) &&& (1 : Int32)) = (1 : Int32) then
      fX10_cubeOf_L6_J34 r l1 l2 l3 l5 ((l1 >>> (l5 &&& 31)) &&& (1 : Int32)) l4
    else
      fX10_cubeOf_L6_J34 r l1 l2 l3 l5 (2 : Int32) l4
def fX10_cubeOf (r : RS) (a1 : Int32) (a2 : Int32) (a3 : Int32) : Option (Int32) :=
  (lpN (fun u => fX10_cubeOf_L6 r a1 a2 a3 u.1 u.2) bigN ((0 : Int32), (0 : Int32))).bind fun e2 =>
  some e2
set_option maxHeartbeats 4000000 in
set_option maxRecDepth 100000 in
theorem tX10_cubeOf_L6 {κ : KK} {p : Program} {l : Launch} {e : Env} {s : State} {m : MethodId} {args : Array Value} {below : List Frame} {meth : Method} {c : Code} (C : Cx κ p s m args meth c cX10_cubeOf 6 RX10 (some .int)) {o : Nat} {v : Option Value} {B' : Heap → Prop} {r : RS} {l1 : Int32} {l2 : Int32} {l3 : Int32} {l4 : Int32} {l5 : Int32} {y : (Int32 × Int32) ⊕ Int32} (h : fX10_cubeOf_L6 r l1 l2 l3 l4 l5 = some y) (kc : ∀ u, y = .inl u → GR κ p l e s m args below meth c rmX10_cubeOf 6 o v B' r 6 [(0, .ref o), (1, .int l1), (2, .int l2), (3, .int l3), (4, .int u.1), (5, .int u.2)] []) (kx : ∀ w, y = .inr w → GR κ p l e s m args below meth c rmX10_cubeOf 6 o v B' r 51 [(4, .int w)] []) : GR κ p l e s m args below meth c rmX10_cubeOf 6 o v B' r 6 [(0, .ref o), (1, .int l1), (2, .int l2), (3, .int l3), (4, .int l4), (5, .int l5)] [] := by
  have J34 : ∀ (l5 : Int32) (s0 : Int32) (s1 : Int32), fX10_cubeOf_L6_J34 r l1 l2 l3 l5 s0 s1 = some y → GR κ p l e s m args below meth c rmX10_cubeOf 6 o v B' r 34 [(0, .ref o), (1, .int l1), (2, .int l2), (3, .int l3), (5, .int l5)] [.int s0, .int s1] := by
    intro l5 s0 s1 h
    unfold fX10_cubeOf_L6_J34 at h
    refine G_aload_n (pc' := 35) C dX10_cubeOf_34 0 rfl rfl ?_
    refine R_g_power (pc' := 38) C dX10_cubeOf_35 rfl ?_
    refine G_iload (pc' := 40) C dX10_cubeOf_38 4 rfl rfl ?_
    obtain ⟨v1, hv1, h⟩ := ob h
    refine R_l_power (pc' := 41) C dX10_cubeOf_40 hv1 rfl ?_
    refine G_imul (pc' := 42) C dX10_cubeOf_41 rfl ?_
    refine G_iadd (pc' := 43) C dX10_cubeOf_42 rfl ?_
    refine G_istore (pc' := 45) C dX10_cubeOf_43 [(4, .int (s1 + (s0 * v1))), (0, .ref o), (1, .int l1), (2, .int l2), (3, .int l3), (5, .int l5)] (by decide) rfl rfl ?_
    refine G_iinc (pc' := 48) C dX10_cubeOf_45 5 rfl rfl [(5, .int (l5 + (1 : Int32))), (4, .int (s1 + (s0 * v1))), (0, .ref o), (1, .int l1), (2, .int l2), (3, .int l3)] (by decide) rfl rfl ?_
    refine G_goto (tgt := 6) C dX10_cubeOf_48 (by decide) ?_
    exact G_sub [2, 3, 4, 5, 1, 0] rfl (kc _ (Option.some.inj h).symm)
  unfold fX10_cubeOf_L6 at h
  refine G_iload (pc' := 8) C dX10_cubeOf_6 5 rfl rfl ?_
  refine G_iload_n (pc' := 9) C dX10_cubeOf_8 3 rfl rfl ?_
  refine G_icmp_ge (tgt := 51) (pc' := 12) C dX10_cubeOf_9 (by decide) rfl (fun hc => ?_) (fun hc => ?_)
  · replace h := z_ip hc h
    exact G_sub [4] rfl (kx _ (Option.some.inj h).symm)
  · replace h := z_in hc h
    refine G_iload (pc' := 14) C dX10_cubeOf_12 4 rfl rfl ?_
    refine G_iload_n (pc' := 15) C dX10_cubeOf_14 2 rfl rfl ?_
    refine G_iload (pc' := 17) C dX10_cubeOf_15 5 rfl rfl ?_
    refine G_ishr (pc' := 18) C dX10_cubeOf_17 rfl ?_
    refine G_iconst (pc' := 19) (v := (1 : Int32)) C dX10_cubeOf_18 (by decide) rfl ?_
    refine G_iand (pc' := 20) C dX10_cubeOf_19 rfl ?_
    refine G_iconst (pc' := 21) (v := (1 : Int32)) C dX10_cubeOf_20 (by decide) rfl ?_
    refine G_icmp_ne (tgt := 33) (pc' := 24) C dX10_cubeOf_21 (by decide) rfl (fun hc => ?_) (fun hc => ?_)
    · replace h := z_in hc h
      refine G_iconst (pc' := 34) (v := (2 : Int32)) C dX10_cubeOf_33 (by decide) rfl ?_
      exact G_sub [0, 1, 2, 3, 5] rfl (J34 l5 (2 : Int32) l4 h)
    · replace h := z_ip hc h
      refine G_iload_n (pc' := 25) C dX10_cubeOf_24 1 rfl rfl ?_
      refine G_iload (pc' := 27) C dX10_cubeOf_25 5 rfl rfl ?_
      refine G_ishr (pc' := 28) C dX10_cubeOf_27 rfl ?_
      refine G_iconst (pc' := 29) (v := (1 : Int32)) C dX10_cubeOf_28 (by decide) rfl ?_
      refine G_iand (pc' := 30) C dX10_cubeOf_29 rfl ?_
      refine G_goto (tgt := 34) C dX10_cubeOf_30 (by decide) ?_
      exact G_sub [0, 1, 2, 3, 5] rfl (J34 l5 ((l1 >>> (l5 &&& 31)) &&& (1 : Int32)) l4 h)
set_option maxHeartbeats 4000000 in
set_option maxRecDepth 100000 in
theorem tX10_cubeOf (κ : KK) (l : Launch) (o : Nat) (r : RS) (a1 : Int32) (a2 : Int32) (a3 : Int32) (q : Int32) (h : fX10_cubeOf r a1 a2 a3 = some q) : MM κ l yX10_cubeOf cX10_cubeOf 6 (some .int) rmX10_cubeOf (RA o) [.ref o, .int a1, .int a2, .int a3] (RB κ o r) (some (Value.int q)) (RB κ o r) := by
  refine MM.of (by decide +kernel) (Nat.le_of_ble_eq_true rfl) ?_
  intro p e s m below meth c C hnm
  unfold fX10_cubeOf at h
  refine G_sub (lv' := [(0, .ref o), (1, .int a1), (2, .int a2), (3, .int a3)]) [0, 1, 2, 3] rfl ?_
  refine G_iconst (pc' := 1) (v := (0 : Int32)) C dX10_cubeOf_0 (by decide) rfl ?_
  refine G_istore (pc' := 3) C dX10_cubeOf_1 [(4, .int (0 : Int32)), (0, .ref o), (1, .int a1), (2, .int a2), (3, .int a3)] (by decide) rfl rfl ?_
  refine G_iconst (pc' := 4) (v := (0 : Int32)) C dX10_cubeOf_3 (by decide) rfl ?_
  refine G_istore (pc' := 6) C dX10_cubeOf_4 [(5, .int (0 : Int32)), (4, .int (0 : Int32)), (0, .ref o), (1, .int a1), (2, .int a2), (3, .int a3)] (by decide) rfl rfl ?_
  obtain ⟨e2, hle2, h⟩ := ob h
  refine G_sub (lv' := [(0, .ref o), (1, .int a1), (2, .int a2), (3, .int a3), (4, .int (0 : Int32)), (5, .int (0 : Int32))]) [2, 3, 4, 5, 1, 0] rfl ?_
  refine lpN_ind (body := fun u => fX10_cubeOf_L6 r a1 a2 a3 u.1 u.2) (P := fun u => GR κ p l e s m ([.ref o, .int a1, .int a2, .int a3] : List Value).toArray below meth c rmX10_cubeOf 6 o (some (Value.int q)) (RB κ o r) r 6 [(0, .ref o), (1, .int a1), (2, .int a2), (3, .int a3), (4, .int u.1), (5, .int u.2)] []) (X := fun w => GR κ p l e s m ([.ref o, .int a1, .int a2, .int a3] : List Value).toArray below meth c rmX10_cubeOf 6 o (some (Value.int q)) (RB κ o r) r 51 [(4, .int w)] []) (fun u y hb kc kx => tX10_cubeOf_L6 C hb kc kx) _ _ _ hle2 ?_
  refine G_iload (pc' := 53) C dX10_cubeOf_51 0 rfl rfl ?_
  obtain rfl := Option.some.inj h
  exact G_iret C dX10_cubeOf_53 (fun _ h => h)
theorem dX10_proof_0 : decode cX10_proof 0 = .ok (.aload_n 0, 1) := by decide +kernel
theorem dX10_proof_1 : decode cX10_proof 1 = .ok (.getfield 7, 3) := by decide +kernel
theorem dX10_proof_4 : decode cX10_proof 4 = .ok (.iload_n 1, 1) := by decide +kernel
theorem dX10_proof_5 : decode cX10_proof 5 = .ok (.iaload, 1) := by decide +kernel
theorem dX10_proof_6 : decode cX10_proof 6 = .ok (.istore_n 3, 1) := by decide +kernel
theorem dX10_proof_7 : decode cX10_proof 7 = .ok (.iconst 0, 1) := by decide +kernel
theorem dX10_proof_8 : decode cX10_proof 8 = .ok (.istore 4, 2) := by decide +kernel
theorem dX10_proof_10 : decode cX10_proof 10 = .ok (.iload 4, 2) := by decide +kernel
theorem dX10_proof_12 : decode cX10_proof 12 = .ok (.aload_n 0, 1) := by decide +kernel
theorem dX10_proof_13 : decode cX10_proof 13 = .ok (.iload_n 1, 1) := by decide +kernel
theorem dX10_proof_14 : decode cX10_proof 14 = .ok (.invokevirtual 119, 3) := by decide +kernel
theorem dX10_proof_17 : decode cX10_proof 17 = .ok (.if_icmp .ge 48, 3) := by decide +kernel
theorem dX10_proof_20 : decode cX10_proof 20 = .ok (.iload 4, 2) := by decide +kernel
theorem dX10_proof_22 : decode cX10_proof 22 = .ok (.invokestatic 145, 3) := by decide +kernel
theorem dX10_proof_25 : decode cX10_proof 25 = .ok (.iload_n 3, 1) := by decide +kernel
theorem dX10_proof_26 : decode cX10_proof 26 = .ok (.if_icmp .ge 31, 3) := by decide +kernel
theorem dX10_proof_29 : decode cX10_proof 29 = .ok (.aload_n 0, 1) := by decide +kernel
theorem dX10_proof_30 : decode cX10_proof 30 = .ok (.aload_n 0, 1) := by decide +kernel
theorem dX10_proof_31 : decode cX10_proof 31 = .ok (.iload_n 2, 1) := by decide +kernel
theorem dX10_proof_32 : decode cX10_proof 32 = .ok (.iload 4, 2) := by decide +kernel
theorem dX10_proof_34 : decode cX10_proof 34 = .ok (.aload_n 0, 1) := by decide +kernel
theorem dX10_proof_35 : decode cX10_proof 35 = .ok (.getfield 7, 3) := by decide +kernel
theorem dX10_proof_38 : decode cX10_proof 38 = .ok (.iload_n 1, 1) := by decide +kernel
theorem dX10_proof_39 : decode cX10_proof 39 = .ok (.iaload, 1) := by decide +kernel
theorem dX10_proof_40 : decode cX10_proof 40 = .ok (.invokevirtual 202, 3) := by decide +kernel
theorem dX10_proof_43 : decode cX10_proof 43 = .ok (.invokevirtual 176, 3) := by decide +kernel
theorem dX10_proof_46 : decode cX10_proof 46 = .ok (.ifCond .eq 11, 3) := by decide +kernel
theorem dX10_proof_49 : decode cX10_proof 49 = .ok (.iload 4, 2) := by decide +kernel
theorem dX10_proof_51 : decode cX10_proof 51 = .ok (.invokestatic 145, 3) := by decide +kernel
theorem dX10_proof_54 : decode cX10_proof 54 = .ok (.goto 4, 3) := by decide +kernel
theorem dX10_proof_57 : decode cX10_proof 57 = .ok (.iload_n 3, 1) := by decide +kernel
theorem dX10_proof_58 : decode cX10_proof 58 = .ok (.istore_n 3, 1) := by decide +kernel
theorem dX10_proof_59 : decode cX10_proof 59 = .ok (.iinc 4 1, 3) := by decide +kernel
theorem dX10_proof_62 : decode cX10_proof 62 = .ok (.goto (-52), 3) := by decide +kernel
theorem dX10_proof_65 : decode cX10_proof 65 = .ok (.iload_n 3, 1) := by decide +kernel
theorem dX10_proof_66 : decode cX10_proof 66 = .ok (.ireturn, 1) := by decide +kernel
abbrev rmX10_proof : Room := { frames := 1, cells := 0, slots := 0, locals := 25 }
theorem yd_X10_proof : yX10_proof.cls = RX10 ∧ yX10_proof.cls ≠ "java/lang/invoke/MethodHandle" ∧ yX10_proof.cls ≠ "java/lang/invoke/VarHandle" ∧ (parseMethodDescriptor yX10_proof.desc).map (fun d => d.parameters.length) = some 2 := by decide +kernel
def fX10_proof_L10_J58 (r : RS) (l1 : Int32) (l2 : Int32) (l4 : Int32) (s0 : Int32) : Option ((Int32 × Int32) ⊕ Int32) :=
  some (.inl (s0, (l4 + (1 : Int32))))
def fX10_proof_L10_J57 (r : RS) (l1 : Int32) (l2 : Int32) (l3 : Int32) (l4 : Int32) : Option ((Int32 × Int32) ⊕ Int32) :=
  fX10_proof_L10_J58 r l1 l2 l4 l3
def fX10_proof_L10 (r : RS) (l1 : Int32) (l2 : Int32) (l3 : Int32) (l4 : Int32) : Option ((Int32 × Int32) ⊕ Int32) :=
  (fX10_inputs r l1).bind fun q2 =>
  if q2 ≤ l4 then
    some (.inr l3)
  else
    (fX10_ones l4).bind fun q3 =>
    if l3 ≤ q3 then
      fX10_proof_L10_J57 r l1 l2 l3 l4
    else
      (aI 16 (r.2.1 0) l1).bind fun v4 =>
      (fX10_cubeOf r l2 l4 v4).bind fun q5 =>
      (fX10_isSettled r q5).bind fun q6 =>
      if q6 = 0 then
        fX10_proof_L10_J57 r l1 l2 l3 l4
      else
        (fX10_ones l4).bind fun q7 =>
        fX10_proof_L10_J58 r l1 l2 l4 q7
def fX10_proof (r : RS) (a1 : Int32) (a2 : Int32) : Option (Int32) :=
  (aI 16 (r.2.1 0) a1).bind fun v1 =>
  (lpN (fun u => fX10_proof_L10 r a1 a2 u.1 u.2) bigN (v1, (0 : Int32))).bind fun e8 =>
  some e8
set_option maxHeartbeats 4000000 in
set_option maxRecDepth 100000 in
theorem tX10_proof_L10 {κ : KK} {p : Program} {l : Launch} {e : Env} {s : State} {m : MethodId} {args : Array Value} {below : List Frame} {meth : Method} {c : Code} (C : Cx κ p s m args meth c cX10_proof 5 RX10 (some .int)) {o : Nat} {v : Option Value} {B' : Heap → Prop} {r : RS} {l1 : Int32} {l2 : Int32} {l3 : Int32} {l4 : Int32} {y : (Int32 × Int32) ⊕ Int32} (h : fX10_proof_L10 r l1 l2 l3 l4 = some y) (kc : ∀ u, y = .inl u → GR κ p l e s m args below meth c rmX10_proof 5 o v B' r 10 [(0, .ref o), (1, .int l1), (2, .int l2), (3, .int u.1), (4, .int u.2)] []) (kx : ∀ w, y = .inr w → GR κ p l e s m args below meth c rmX10_proof 5 o v B' r 65 [(3, .int w)] []) : GR κ p l e s m args below meth c rmX10_proof 5 o v B' r 10 [(0, .ref o), (1, .int l1), (2, .int l2), (3, .int l3), (4, .int l4)] [] := by
  have J58 : ∀ (l4 : Int32) (s0 : Int32), fX10_proof_L10_J58 r l1 l2 l4 s0 = some y → GR κ p l e s m args below meth c rmX10_proof 5 o v B' r 58 [(0, .ref o), (1, .int l1), (2, .int l2), (4, .int l4)] [.int s0] := by
    intro l4 s0 h
    unfold fX10_proof_L10_J58 at h
    refine G_istore_n (pc' := 59) C dX10_proof_58 [(3, .int s0), (0, .ref o), (1, .int l1), (2, .int l2), (4, .int l4)] (by decide) rfl rfl ?_
    refine G_iinc (pc' := 62) C dX10_proof_59 4 rfl rfl [(4, .int (l4 + (1 : Int32))), (3, .int s0), (0, .ref o), (1, .int l1), (2, .int l2)] (by decide) rfl rfl ?_
    refine G_goto (tgt := 10) C dX10_proof_62 (by decide) ?_
    exact G_sub [2, 3, 4, 1, 0] rfl (kc _ (Option.some.inj h).symm)
  have J57 : ∀ (l3 : Int32) (l4 : Int32), fX10_proof_L10_J57 r l1 l2 l3 l4 = some y → GR κ p l e s m args below meth c rmX10_proof 5 o v B' r 57 [(0, .ref o), (1, .int l1), (2, .int l2), (3, .int l3), (4, .int l4)] [] := by
    intro l3 l4 h
    unfold fX10_proof_L10_J57 at h
    refine G_iload_n (pc' := 58) C dX10_proof_57 3 rfl rfl ?_
    exact G_sub [0, 1, 2, 4] rfl (J58 l4 l3 h)
  unfold fX10_proof_L10 at h
  refine G_iload (pc' := 12) C dX10_proof_10 4 rfl rfl ?_
  refine G_aload_n (pc' := 13) C dX10_proof_12 0 rfl rfl ?_
  refine G_iload_n (pc' := 14) C dX10_proof_13 1 rfl rfl ?_
  obtain ⟨q2, hq2, h⟩ := ob h
  refine G_cV0 (pc' := 17) C dX10_proof_14 (tX10_inputs κ l o r l1 q2 hq2) (wV tw_ml_X10_119 tw_im_X10_inputs tw_se_X10_X10_inputs tw_in_X10 tw_co_X10_inputs) yd_X10_inputs rfl fi_X10 (RB_rd 0 rfl) rfl rfl (by decide) rfl (Nat.le_of_ble_eq_true rfl) rfl rfl ?_
  refine G_icmp_ge (tgt := 65) (pc' := 20) C dX10_proof_17 (by decide) rfl (fun hc => ?_) (fun hc => ?_)
  · replace h := z_ip hc h
    exact G_sub [3] rfl (kx _ (Option.some.inj h).symm)
  · replace h := z_in hc h
    refine G_iload (pc' := 22) C dX10_proof_20 4 rfl rfl ?_
    obtain ⟨q3, hq3, h⟩ := ob h
    refine G_cS0 (pc' := 25) C dX10_proof_22 (tX10_ones κ l (RA o) (RB κ o r) l4 q3 hq3) (wS tw_ml_X10_145 tw_st_X10_ones tw_co_X10_ones tw_in_X10) yd_X10_ones rfl rfl rfl (by decide) rfl (Nat.le_of_ble_eq_true rfl) rfl rfl ?_
    refine G_iload_n (pc' := 26) C dX10_proof_25 3 rfl rfl ?_
    refine G_icmp_ge (tgt := 57) (pc' := 29) C dX10_proof_26 (by decide) rfl (fun hc => ?_) (fun hc => ?_)
    · replace h := z_ip hc h
      exact G_sub [0, 1, 2, 3, 4] rfl (J57 l3 l4 h)
    · replace h := z_in hc h
      refine G_aload_n (pc' := 30) C dX10_proof_29 0 rfl rfl ?_
      refine G_aload_n (pc' := 31) C dX10_proof_30 0 rfl rfl ?_
      refine G_iload_n (pc' := 32) C dX10_proof_31 2 rfl rfl ?_
      refine G_iload (pc' := 34) C dX10_proof_32 4 rfl rfl ?_
      refine G_aload_n (pc' := 35) C dX10_proof_34 0 rfl rfl ?_
      refine R_g_bits (pc' := 38) C dX10_proof_35 rfl ?_
      refine G_iload_n (pc' := 39) C dX10_proof_38 1 rfl rfl ?_
      obtain ⟨v4, hv4, h⟩ := ob h
      refine R_l_bits (pc' := 40) C dX10_proof_39 hv4 rfl ?_
      obtain ⟨q5, hq5, h⟩ := ob h
      refine G_cV0 (pc' := 43) C dX10_proof_40 (tX10_cubeOf κ l o r l2 l4 v4 q5 hq5) (wV tw_ml_X10_202 tw_im_X10_cubeOf tw_se_X10_X10_cubeOf tw_in_X10 tw_co_X10_cubeOf) yd_X10_cubeOf rfl fi_X10 (RB_rd 0 rfl) rfl rfl (by decide) rfl (Nat.le_of_ble_eq_true rfl) rfl rfl ?_
      obtain ⟨q6, hq6, h⟩ := ob h
      refine G_cV0 (pc' := 46) C dX10_proof_43 (tX10_isSettled κ l o r q5 q6 hq6) (wV tw_ml_X10_176 tw_im_X10_isSettled tw_se_X10_X10_isSettled tw_in_X10 tw_co_X10_isSettled) yd_X10_isSettled rfl fi_X10 (RB_rd 0 rfl) rfl rfl (by decide) rfl (Nat.le_of_ble_eq_true rfl) rfl rfl ?_
      refine G_if_eq (tgt := 57) (pc' := 49) C dX10_proof_46 (by decide) rfl (fun hc => ?_) (fun hc => ?_)
      · replace h := z_ip hc h
        exact G_sub [0, 1, 2, 3, 4] rfl (J57 l3 l4 h)
      · replace h := z_in hc h
        refine G_iload (pc' := 51) C dX10_proof_49 4 rfl rfl ?_
        obtain ⟨q7, hq7, h⟩ := ob h
        refine G_cS0 (pc' := 54) C dX10_proof_51 (tX10_ones κ l (RA o) (RB κ o r) l4 q7 hq7) (wS tw_ml_X10_145 tw_st_X10_ones tw_co_X10_ones tw_in_X10) yd_X10_ones rfl rfl rfl (by decide) rfl (Nat.le_of_ble_eq_true rfl) rfl rfl ?_
        refine G_goto (tgt := 58) C dX10_proof_54 (by decide) ?_
        exact G_sub [0, 1, 2, 4] rfl (J58 l4 q7 h)
set_option maxHeartbeats 4000000 in
set_option maxRecDepth 100000 in
theorem tX10_proof (κ : KK) (l : Launch) (o : Nat) (r : RS) (a1 : Int32) (a2 : Int32) (q : Int32) (h : fX10_proof r a1 a2 = some q) : MM κ l yX10_proof cX10_proof 5 (some .int) rmX10_proof (RA o) [.ref o, .int a1, .int a2] (RB κ o r) (some (Value.int q)) (RB κ o r) := by
  refine MM.of (by decide +kernel) (Nat.le_of_ble_eq_true rfl) ?_
  intro p e s m below meth c C hnm
  unfold fX10_proof at h
  refine G_sub (lv' := [(0, .ref o), (1, .int a1), (2, .int a2)]) [0, 1, 2] rfl ?_
  refine G_aload_n (pc' := 1) C dX10_proof_0 0 rfl rfl ?_
  refine R_g_bits (pc' := 4) C dX10_proof_1 rfl ?_
  refine G_iload_n (pc' := 5) C dX10_proof_4 1 rfl rfl ?_
  obtain ⟨v1, hv1, h⟩ := ob h
  refine R_l_bits (pc' := 6) C dX10_proof_5 hv1 rfl ?_
  refine G_istore_n (pc' := 7) C dX10_proof_6 [(3, .int v1), (0, .ref o), (1, .int a1), (2, .int a2)] (by decide) rfl rfl ?_
  refine G_iconst (pc' := 8) (v := (0 : Int32)) C dX10_proof_7 (by decide) rfl ?_
  refine G_istore (pc' := 10) C dX10_proof_8 [(4, .int (0 : Int32)), (3, .int v1), (0, .ref o), (1, .int a1), (2, .int a2)] (by decide) rfl rfl ?_
  obtain ⟨e8, hle8, h⟩ := ob h
  refine G_sub (lv' := [(0, .ref o), (1, .int a1), (2, .int a2), (3, .int v1), (4, .int (0 : Int32))]) [2, 3, 4, 1, 0] rfl ?_
  refine lpN_ind (body := fun u => fX10_proof_L10 r a1 a2 u.1 u.2) (P := fun u => GR κ p l e s m ([.ref o, .int a1, .int a2] : List Value).toArray below meth c rmX10_proof 5 o (some (Value.int q)) (RB κ o r) r 10 [(0, .ref o), (1, .int a1), (2, .int a2), (3, .int u.1), (4, .int u.2)] []) (X := fun w => GR κ p l e s m ([.ref o, .int a1, .int a2] : List Value).toArray below meth c rmX10_proof 5 o (some (Value.int q)) (RB κ o r) r 65 [(3, .int w)] []) (fun u y hb kc kx => tX10_proof_L10 C hb kc kx) _ _ _ hle8 ?_
  refine G_iload_n (pc' := 66) C dX10_proof_65 0 rfl rfl ?_
  obtain rfl := Option.some.inj h
  exact G_iret C dX10_proof_66 (fun _ h => h)
