theorem dX10_task_0 : decode cX10_task 0 = .ok (.iload_n 1, 1) := by decide +kernel
theorem dX10_task_1 : decode cX10_task 1 = .ok (.invokestatic 115, 3) := by decide +kernel
theorem dX10_task_4 : decode cX10_task 4 = .ok (.ifCond .eq 21, 3) := by decide +kernel
theorem dX10_task_7 : decode cX10_task 7 = .ok (.iload_n 3, 1) := by decide +kernel
theorem dX10_task_8 : decode cX10_task 8 = .ok (.invokestatic 133, 3) := by decide +kernel
theorem dX10_task_11 : decode cX10_task 11 = .ok (.ifCond .eq 14, 3) := by decide +kernel
theorem dX10_task_14 : decode cX10_task 14 = .ok (.iload_n 2, 1) := by decide +kernel
theorem dX10_task_15 : decode cX10_task 15 = .ok (.iconst 1, 1) := by decide +kernel
theorem dX10_task_16 : decode cX10_task 16 = .ok (.if_icmp .lt 9, 3) := by decide +kernel
theorem dX10_task_19 : decode cX10_task 19 = .ok (.iload_n 2, 1) := by decide +kernel
theorem dX10_task_20 : decode cX10_task 20 = .ok (.bipush 8, 2) := by decide +kernel
theorem dX10_task_22 : decode cX10_task 22 = .ok (.if_icmp .le 6, 3) := by decide +kernel
theorem dX10_task_25 : decode cX10_task 25 = .ok (.bipush (-2), 2) := by decide +kernel
theorem dX10_task_27 : decode cX10_task 27 = .ok (.ireturn, 1) := by decide +kernel
theorem dX10_task_28 : decode cX10_task 28 = .ok (.aload_n 0, 1) := by decide +kernel
theorem dX10_task_29 : decode cX10_task 29 = .ok (.getfield 7, 3) := by decide +kernel
theorem dX10_task_32 : decode cX10_task 32 = .ok (.iload_n 1, 1) := by decide +kernel
theorem dX10_task_33 : decode cX10_task 33 = .ok (.iload_n 2, 1) := by decide +kernel
theorem dX10_task_34 : decode cX10_task 34 = .ok (.iastore, 1) := by decide +kernel
theorem dX10_task_35 : decode cX10_task 35 = .ok (.aload_n 0, 1) := by decide +kernel
theorem dX10_task_36 : decode cX10_task 36 = .ok (.getfield 13, 3) := by decide +kernel
theorem dX10_task_39 : decode cX10_task 39 = .ok (.iload_n 1, 1) := by decide +kernel
theorem dX10_task_40 : decode cX10_task 40 = .ok (.iconst 0, 1) := by decide +kernel
theorem dX10_task_41 : decode cX10_task 41 = .ok (.iastore, 1) := by decide +kernel
theorem dX10_task_42 : decode cX10_task 42 = .ok (.iconst 0, 1) := by decide +kernel
theorem dX10_task_43 : decode cX10_task 43 = .ok (.istore 4, 2) := by decide +kernel
theorem dX10_task_45 : decode cX10_task 45 = .ok (.iload 4, 2) := by decide +kernel
theorem dX10_task_47 : decode cX10_task 47 = .ok (.aload_n 0, 1) := by decide +kernel
theorem dX10_task_48 : decode cX10_task 48 = .ok (.iload_n 1, 1) := by decide +kernel
theorem dX10_task_49 : decode cX10_task 49 = .ok (.invokevirtual 119, 3) := by decide +kernel
theorem dX10_task_52 : decode cX10_task 52 = .ok (.if_icmp .ge 90, 3) := by decide +kernel
theorem dX10_task_55 : decode cX10_task 55 = .ok (.aload_n 0, 1) := by decide +kernel
theorem dX10_task_56 : decode cX10_task 56 = .ok (.getfield 25, 3) := by decide +kernel
theorem dX10_task_59 : decode cX10_task 59 = .ok (.iload_n 3, 1) := by decide +kernel
theorem dX10_task_60 : decode cX10_task 60 = .ok (.iaload, 1) := by decide +kernel
theorem dX10_task_61 : decode cX10_task 61 = .ok (.ifCond .ge 7, 3) := by decide +kernel
theorem dX10_task_64 : decode cX10_task 64 = .ok (.lconst 0, 1) := by decide +kernel
theorem dX10_task_65 : decode cX10_task 65 = .ok (.goto 33, 3) := by decide +kernel
theorem dX10_task_68 : decode cX10_task 68 = .ok (.iload 4, 2) := by decide +kernel
theorem dX10_task_70 : decode cX10_task 70 = .ok (.aload_n 0, 1) := by decide +kernel
theorem dX10_task_71 : decode cX10_task 71 = .ok (.getfield 25, 3) := by decide +kernel
theorem dX10_task_74 : decode cX10_task 74 = .ok (.iload_n 3, 1) := by decide +kernel
theorem dX10_task_75 : decode cX10_task 75 = .ok (.iaload, 1) := by decide +kernel
theorem dX10_task_76 : decode cX10_task 76 = .ok (.if_icmp .ge 19, 3) := by decide +kernel
theorem dX10_task_79 : decode cX10_task 79 = .ok (.aload_n 0, 1) := by decide +kernel
theorem dX10_task_80 : decode cX10_task 80 = .ok (.getfield 28, 3) := by decide +kernel
theorem dX10_task_83 : decode cX10_task 83 = .ok (.sipush 256, 3) := by decide +kernel
theorem dX10_task_86 : decode cX10_task 86 = .ok (.iload_n 3, 1) := by decide +kernel
theorem dX10_task_87 : decode cX10_task 87 = .ok (.imul, 1) := by decide +kernel
theorem dX10_task_88 : decode cX10_task 88 = .ok (.iload 4, 2) := by decide +kernel
theorem dX10_task_90 : decode cX10_task 90 = .ok (.iadd, 1) := by decide +kernel
theorem dX10_task_91 : decode cX10_task 91 = .ok (.laload, 1) := by decide +kernel
theorem dX10_task_92 : decode cX10_task 92 = .ok (.goto 6, 3) := by decide +kernel
theorem dX10_task_95 : decode cX10_task 95 = .ok (.ldc2_w 143, 3) := by decide +kernel
theorem dX10_task_98 : decode cX10_task 98 = .ok (.lstore 5, 2) := by decide +kernel
theorem dX10_task_100 : decode cX10_task 100 = .ok (.aload_n 0, 1) := by decide +kernel
theorem dX10_task_101 : decode cX10_task 101 = .ok (.getfield 19, 3) := by decide +kernel
theorem dX10_task_104 : decode cX10_task 104 = .ok (.sipush 256, 3) := by decide +kernel
theorem dX10_task_107 : decode cX10_task 107 = .ok (.iload_n 1, 1) := by decide +kernel
theorem dX10_task_108 : decode cX10_task 108 = .ok (.imul, 1) := by decide +kernel
theorem dX10_task_109 : decode cX10_task 109 = .ok (.iload 4, 2) := by decide +kernel
theorem dX10_task_111 : decode cX10_task 111 = .ok (.iadd, 1) := by decide +kernel
theorem dX10_task_112 : decode cX10_task 112 = .ok (.lload 5, 2) := by decide +kernel
theorem dX10_task_114 : decode cX10_task 114 = .ok (.lconst 0, 1) := by decide +kernel
theorem dX10_task_115 : decode cX10_task 115 = .ok (.lcmp, 1) := by decide +kernel
theorem dX10_task_116 : decode cX10_task 116 = .ok (.ifCond .le 7, 3) := by decide +kernel
theorem dX10_task_119 : decode cX10_task 119 = .ok (.iconst 1, 1) := by decide +kernel
theorem dX10_task_120 : decode cX10_task 120 = .ok (.goto 15, 3) := by decide +kernel
theorem dX10_task_123 : decode cX10_task 123 = .ok (.lload 5, 2) := by decide +kernel
theorem dX10_task_125 : decode cX10_task 125 = .ok (.lconst 0, 1) := by decide +kernel
theorem dX10_task_126 : decode cX10_task 126 = .ok (.lcmp, 1) := by decide +kernel
theorem dX10_task_127 : decode cX10_task 127 = .ok (.ifCond .ne 7, 3) := by decide +kernel
theorem dX10_task_130 : decode cX10_task 130 = .ok (.iconst 0, 1) := by decide +kernel
theorem dX10_task_131 : decode cX10_task 131 = .ok (.goto 4, 3) := by decide +kernel
theorem dX10_task_134 : decode cX10_task 134 = .ok (.iconst 2, 1) := by decide +kernel
theorem dX10_task_135 : decode cX10_task 135 = .ok (.iastore, 1) := by decide +kernel
theorem dX10_task_136 : decode cX10_task 136 = .ok (.iinc 4 1, 3) := by decide +kernel
theorem dX10_task_139 : decode cX10_task 139 = .ok (.goto (-94), 3) := by decide +kernel
theorem dX10_task_142 : decode cX10_task 142 = .ok (.aload_n 0, 1) := by decide +kernel
theorem dX10_task_143 : decode cX10_task 143 = .ok (.iload_n 1, 1) := by decide +kernel
theorem dX10_task_144 : decode cX10_task 144 = .ok (.invokevirtual 130, 3) := by decide +kernel
theorem dX10_task_147 : decode cX10_task 147 = .ok (.ireturn, 1) := by decide +kernel
abbrev rmX10_task : Room := { frames := 2, cells := 0, slots := 0, locals := 45 }
theorem yd_X10_task : yX10_task.cls = RX10 ∧ yX10_task.cls ≠ "java/lang/invoke/MethodHandle" ∧ yX10_task.cls ≠ "java/lang/invoke/VarHandle" ∧ (parseMethodDescriptor yX10_task.desc).map (fun d => d.parameters.length) = some 3 := by decide +kernel
def fX10_task_L45_J135 (r : RS) (l1 : Int32) (l3 : Int32) (l4 : Int32) (s0 : Int32) (s1 : Int32) : Option ((Int32 × RS) ⊕ RS) :=
  (sA r 3 4096 s1 s0).bind fun r8 =>
  some (.inl ((l4 + (1 : Int32)), r8))
def fX10_task_L45_J98 (r : RS) (l1 : Int32) (l3 : Int32) (l4 : Int32) (s0 : Int64) : Option ((Int32 × RS) ⊕ RS) :=
  if (lg_cmp s0 (0 : Int64)) ≤ 0 then
    if (lg_cmp s0 (0 : Int64)) = 0 then
      fX10_task_L45_J135 r l1 l3 l4 (0 : Int32) (((256 : Int32) * l1) + l4)
    else
      fX10_task_L45_J135 r l1 l3 l4 (2 : Int32) (((256 : Int32) * l1) + l4)
  else
    fX10_task_L45_J135 r l1 l3 l4 (1 : Int32) (((256 : Int32) * l1) + l4)
def fX10_task_L45 (r : RS) (l1 : Int32) (l3 : Int32) (l4 : Int32) : Option ((Int32 × RS) ⊕ RS) :=
  (fX10_inputs r l1).bind fun q5 =>
  if q5 ≤ l4 then
    some (.inr r)
  else
    (aI 6 (r.2.1 5) l3).bind fun v6 =>
    if 0 ≤ v6 then
      (aI 6 (r.2.1 5) l3).bind fun v7 =>
      if v7 ≤ l4 then
        fX10_task_L45_J98 r l1 l3 l4 (-1 : Int64)
      else
        (aL 1536 (r.2.2 6) (((256 : Int32) * l3) + l4)).bind fun v9 =>
        fX10_task_L45_J98 r l1 l3 l4 v9
    else
      fX10_task_L45_J98 r l1 l3 l4 (0 : Int64)
def fX10_task_J25 (r : RS) : Option (Int32 × RS) :=
  some ((-2 : Int32), r)
def fX10_task (r : RS) (a1 : Int32) (a2 : Int32) (a3 : Int32) : Option (Int32 × RS) :=
  (fX10_isPlace a1).bind fun q1 =>
  if q1 = 0 then
    fX10_task_J25 r
  else
    (fX10_isSheet a3).bind fun q2 =>
    if q2 = 0 then
      fX10_task_J25 r
    else
      if a2 < (1 : Int32) then
        fX10_task_J25 r
      else
        if a2 ≤ (8 : Int32) then
          (sA r 0 16 a1 a2).bind fun r3 =>
          (sA r3 1 16 a1 (0 : Int32)).bind fun r4 =>
          (lpN (fun u => fX10_task_L45 u.2 a1 a3 u.1) bigN ((0 : Int32), r4)).bind fun e10 =>
          (fX10_opens e10 a1).bind fun q11 =>
          some (q11, e10)
        else
          fX10_task_J25 r
set_option maxHeartbeats 4000000 in
set_option maxRecDepth 100000 in
theorem tX10_task_L45 {κ : KK} {p : Program} {l : Launch} {e : Env} {s : State} {m : MethodId} {args : Array Value} {below : List Frame} {meth : Method} {c : Code} (C : Cx κ p s m args meth c cX10_task 7 RX10 (some .int)) {o : Nat} {v : Option Value} {B' : Heap → Prop} {r : RS} {l1 : Int32} {l3 : Int32} {l4 : Int32} {y : (Int32 × RS) ⊕ RS} (h : fX10_task_L45 r l1 l3 l4 = some y) (kc : ∀ u, y = .inl u → GR κ p l e s m args below meth c rmX10_task 7 o v B' u.2 45 [(0, .ref o), (1, .int l1), (3, .int l3), (4, .int u.1)] []) (kx : ∀ w, y = .inr w → GR κ p l e s m args below meth c rmX10_task 7 o v B' w 142 [(0, .ref o), (1, .int l1)] []) : GR κ p l e s m args below meth c rmX10_task 7 o v B' r 45 [(0, .ref o), (1, .int l1), (3, .int l3), (4, .int l4)] [] := by
  have J135 : ∀ (r : RS) (l4 : Int32) (s0 : Int32) (s1 : Int32), fX10_task_L45_J135 r l1 l3 l4 s0 s1 = some y → GR κ p l e s m args below meth c rmX10_task 7 o v B' r 135 [(0, .ref o), (1, .int l1), (3, .int l3), (4, .int l4)] [.int s0, .int s1, .ref (o + 4)] := by
    intro r l4 s0 s1 h
    unfold fX10_task_L45_J135 at h
    obtain ⟨r8, hr8, h⟩ := ob h
    refine R_s_says (pc' := 136) C dX10_task_135 hr8 rfl ?_
    refine G_iinc (pc' := 139) C dX10_task_136 3 rfl rfl [(4, .int (l4 + (1 : Int32))), (0, .ref o), (1, .int l1), (3, .int l3)] (by decide) rfl rfl ?_
    refine G_goto (tgt := 45) C dX10_task_139 (by decide) ?_
    exact G_sub [1, 2, 3, 0] rfl (kc _ (Option.some.inj h).symm)
  have J98 : ∀ (r : RS) (l4 : Int32) (s0 : Int64), fX10_task_L45_J98 r l1 l3 l4 s0 = some y → GR κ p l e s m args below meth c rmX10_task 7 o v B' r 98 [(0, .ref o), (1, .int l1), (3, .int l3), (4, .int l4)] [.long s0] := by
    intro r l4 s0 h
    unfold fX10_task_L45_J98 at h
    refine G_lstore (pc' := 100) C dX10_task_98 [(5, .long s0), (0, .ref o), (1, .int l1), (3, .int l3), (4, .int l4)] (by decide) rfl rfl ?_
    refine G_aload_n (pc' := 101) C dX10_task_100 1 rfl rfl ?_
    refine R_g_says (pc' := 104) C dX10_task_101 rfl ?_
    refine G_sipush (pc' := 107) (v := (256 : Int32)) C dX10_task_104 (by decide) rfl ?_
    refine G_iload_n (pc' := 108) C dX10_task_107 2 rfl rfl ?_
    refine G_imul (pc' := 109) C dX10_task_108 rfl ?_
    refine G_iload (pc' := 111) C dX10_task_109 4 rfl rfl ?_
    refine G_iadd (pc' := 112) C dX10_task_111 rfl ?_
    refine G_lload (pc' := 114) C dX10_task_112 0 rfl rfl ?_
    refine G_lconst (pc' := 115) (v := (0 : Int64)) C dX10_task_114 (by decide) rfl ?_
    refine G_lcmp (pc' := 116) C dX10_task_115 rfl ?_
    refine G_if_le (tgt := 123) (pc' := 119) C dX10_task_116 (by decide) rfl (fun hc => ?_) (fun hc => ?_)
    · replace h := z_ip hc h
      refine G_lload (pc' := 125) C dX10_task_123 0 rfl rfl ?_
      refine G_lconst (pc' := 126) (v := (0 : Int64)) C dX10_task_125 (by decide) rfl ?_
      refine G_lcmp (pc' := 127) C dX10_task_126 rfl ?_
      refine G_if_ne (tgt := 134) (pc' := 130) C dX10_task_127 (by decide) rfl (fun hc => ?_) (fun hc => ?_)
      · replace h := z_in hc h
        refine G_iconst (pc' := 135) (v := (2 : Int32)) C dX10_task_134 (by decide) rfl ?_
        exact G_sub [1, 2, 3, 4] rfl (J135 r l4 (2 : Int32) (((256 : Int32) * l1) + l4) h)
      · replace h := z_ip hc h
        refine G_iconst (pc' := 131) (v := (0 : Int32)) C dX10_task_130 (by decide) rfl ?_
        refine G_goto (tgt := 135) C dX10_task_131 (by decide) ?_
        exact G_sub [1, 2, 3, 4] rfl (J135 r l4 (0 : Int32) (((256 : Int32) * l1) + l4) h)
    · replace h := z_in hc h
      refine G_iconst (pc' := 120) (v := (1 : Int32)) C dX10_task_119 (by decide) rfl ?_
      refine G_goto (tgt := 135) C dX10_task_120 (by decide) ?_
      exact G_sub [1, 2, 3, 4] rfl (J135 r l4 (1 : Int32) (((256 : Int32) * l1) + l4) h)
  unfold fX10_task_L45 at h
  refine G_iload (pc' := 47) C dX10_task_45 3 rfl rfl ?_
  refine G_aload_n (pc' := 48) C dX10_task_47 0 rfl rfl ?_
  refine G_iload_n (pc' := 49) C dX10_task_48 1 rfl rfl ?_
  obtain ⟨q5, hq5, h⟩ := ob h
  refine G_cV0 (pc' := 52) C dX10_task_49 (tX10_inputs κ l o r l1 q5 hq5) (wV tw_ml_X10_119 tw_im_X10_inputs tw_se_X10_X10_inputs tw_in_X10 tw_co_X10_inputs) yd_X10_inputs rfl fi_X10 (RB_rd 0 rfl) rfl rfl (by decide) rfl (Nat.le_of_ble_eq_true rfl) rfl rfl ?_
  refine G_icmp_ge (tgt := 142) (pc' := 55) C dX10_task_52 (by decide) rfl (fun hc => ?_) (fun hc => ?_)
  · replace h := z_ip hc h
    exact G_sub [0, 1] rfl (kx _ (Option.some.inj h).symm)
  · replace h := z_in hc h
    refine G_aload_n (pc' := 56) C dX10_task_55 0 rfl rfl ?_
    refine R_g_sheetSize (pc' := 59) C dX10_task_56 rfl ?_
    refine G_iload_n (pc' := 60) C dX10_task_59 2 rfl rfl ?_
    obtain ⟨v6, hv6, h⟩ := ob h
    refine R_l_sheetSize (pc' := 61) C dX10_task_60 hv6 rfl ?_
    refine G_if_ge (tgt := 68) (pc' := 64) C dX10_task_61 (by decide) rfl (fun hc => ?_) (fun hc => ?_)
    · replace h := z_ip hc h
      refine G_iload (pc' := 70) C dX10_task_68 3 rfl rfl ?_
      refine G_aload_n (pc' := 71) C dX10_task_70 0 rfl rfl ?_
      refine R_g_sheetSize (pc' := 74) C dX10_task_71 rfl ?_
      refine G_iload_n (pc' := 75) C dX10_task_74 2 rfl rfl ?_
      obtain ⟨v7, hv7, h⟩ := ob h
      refine R_l_sheetSize (pc' := 76) C dX10_task_75 hv7 rfl ?_
      refine G_icmp_ge (tgt := 95) (pc' := 79) C dX10_task_76 (by decide) rfl (fun hc => ?_) (fun hc => ?_)
      · replace h := z_ip hc h
        refine G_ldc2 (pc' := 98) C dX10_task_95 tw_k_X10_143 rfl ?_
        exact G_sub [0, 1, 2, 3] rfl (J98 r l4 (-1 : Int64) h)
      · replace h := z_in hc h
        refine G_aload_n (pc' := 80) C dX10_task_79 0 rfl rfl ?_
        refine R_g_sheet (pc' := 83) C dX10_task_80 rfl ?_
        refine G_sipush (pc' := 86) (v := (256 : Int32)) C dX10_task_83 (by decide) rfl ?_
        refine G_iload_n (pc' := 87) C dX10_task_86 2 rfl rfl ?_
        refine G_imul (pc' := 88) C dX10_task_87 rfl ?_
        refine G_iload (pc' := 90) C dX10_task_88 3 rfl rfl ?_
        refine G_iadd (pc' := 91) C dX10_task_90 rfl ?_
        obtain ⟨v9, hv9, h⟩ := ob h
        refine R_l_sheet (pc' := 92) C dX10_task_91 hv9 rfl ?_
        refine G_goto (tgt := 98) C dX10_task_92 (by decide) ?_
        exact G_sub [0, 1, 2, 3] rfl (J98 r l4 v9 h)
    · replace h := z_in hc h
      refine G_lconst (pc' := 65) (v := (0 : Int64)) C dX10_task_64 (by decide) rfl ?_
      refine G_goto (tgt := 98) C dX10_task_65 (by decide) ?_
      exact G_sub [0, 1, 2, 3] rfl (J98 r l4 (0 : Int64) h)
set_option maxHeartbeats 4000000 in
set_option maxRecDepth 100000 in
theorem tX10_task (κ : KK) (l : Launch) (o : Nat) (r : RS) (a1 : Int32) (a2 : Int32) (a3 : Int32) (q : Int32 × RS) (h : fX10_task r a1 a2 a3 = some q) : MM κ l yX10_task cX10_task 7 (some .int) rmX10_task (RA o) [.ref o, .int a1, .int a2, .int a3] (RB κ o r) (some (Value.int q.1)) (RB κ o q.2) := by
  refine MM.of (by decide +kernel) (Nat.le_of_ble_eq_true rfl) ?_
  intro p e s m below meth c C hnm
  have J25 : ∀ (r : RS), fX10_task_J25 r = some q → GR κ p l e s m ([.ref o, .int a1, .int a2, .int a3] : List Value).toArray below meth c rmX10_task 7 o (some (Value.int q.1)) (RB κ o q.2) r 25 [] [] := by
    intro r h
    unfold fX10_task_J25 at h
    refine G_bipush (pc' := 27) (v := (-2 : Int32)) C dX10_task_25 (by decide) rfl ?_
    obtain rfl := Option.some.inj h
    exact G_iret C dX10_task_27 (fun _ h => h)
  unfold fX10_task at h
  refine G_sub (lv' := [(0, .ref o), (1, .int a1), (2, .int a2), (3, .int a3)]) [0, 1, 2, 3] rfl ?_
  refine G_iload_n (pc' := 1) C dX10_task_0 1 rfl rfl ?_
  obtain ⟨q1, hq1, h⟩ := ob h
  refine G_cS0 (pc' := 4) C dX10_task_1 (tX10_isPlace κ l (RA o) (RB κ o r) a1 q1 hq1) (wS tw_ml_X10_115 tw_st_X10_isPlace tw_co_X10_isPlace tw_in_X10) yd_X10_isPlace rfl rfl rfl (by decide) rfl (Nat.le_of_ble_eq_true rfl) rfl rfl ?_
  refine G_if_eq (tgt := 25) (pc' := 7) C dX10_task_4 (by decide) rfl (fun hc => ?_) (fun hc => ?_)
  · replace h := z_ip hc h
    exact G_sub [] rfl (J25 r h)
  · replace h := z_in hc h
    refine G_iload_n (pc' := 8) C dX10_task_7 3 rfl rfl ?_
    obtain ⟨q2, hq2, h⟩ := ob h
    refine G_cS0 (pc' := 11) C dX10_task_8 (tX10_isSheet κ l (RA o) (RB κ o r) a3 q2 hq2) (wS tw_ml_X10_133 tw_st_X10_isSheet tw_co_X10_isSheet tw_in_X10) yd_X10_isSheet rfl rfl rfl (by decide) rfl (Nat.le_of_ble_eq_true rfl) rfl rfl ?_
    refine G_if_eq (tgt := 25) (pc' := 14) C dX10_task_11 (by decide) rfl (fun hc => ?_) (fun hc => ?_)
    · replace h := z_ip hc h
      exact G_sub [] rfl (J25 r h)
    · replace h := z_in hc h
      refine G_iload_n (pc' := 15) C dX10_task_14 2 rfl rfl ?_
      refine G_iconst (pc' := 16) (v := (1 : Int32)) C dX10_task_15 (by decide) rfl ?_
      refine G_icmp_lt (tgt := 25) (pc' := 19) C dX10_task_16 (by decide) rfl (fun hc => ?_) (fun hc => ?_)
      · replace h := z_ip hc h
        exact G_sub [] rfl (J25 r h)
      · replace h := z_in hc h
        refine G_iload_n (pc' := 20) C dX10_task_19 2 rfl rfl ?_
        refine G_bipush (pc' := 22) (v := (8 : Int32)) C dX10_task_20 (by decide) rfl ?_
        refine G_icmp_le (tgt := 28) (pc' := 25) C dX10_task_22 (by decide) rfl (fun hc => ?_) (fun hc => ?_)
        · replace h := z_ip hc h
          refine G_aload_n (pc' := 29) C dX10_task_28 0 rfl rfl ?_
          refine R_g_bits (pc' := 32) C dX10_task_29 rfl ?_
          refine G_iload_n (pc' := 33) C dX10_task_32 1 rfl rfl ?_
          refine G_iload_n (pc' := 34) C dX10_task_33 2 rfl rfl ?_
          obtain ⟨r3, hr3, h⟩ := ob h
          refine R_s_bits (pc' := 35) C dX10_task_34 hr3 rfl ?_
          refine G_aload_n (pc' := 36) C dX10_task_35 0 rfl rfl ?_
          refine R_g_kind (pc' := 39) C dX10_task_36 rfl ?_
          refine G_iload_n (pc' := 40) C dX10_task_39 1 rfl rfl ?_
          refine G_iconst (pc' := 41) (v := (0 : Int32)) C dX10_task_40 (by decide) rfl ?_
          obtain ⟨r4, hr4, h⟩ := ob h
          refine R_s_kind (pc' := 42) C dX10_task_41 hr4 rfl ?_
          refine G_iconst (pc' := 43) (v := (0 : Int32)) C dX10_task_42 (by decide) rfl ?_
          refine G_istore (pc' := 45) C dX10_task_43 [(4, .int (0 : Int32)), (0, .ref o), (1, .int a1), (2, .int a2), (3, .int a3)] (by decide) rfl rfl ?_
          obtain ⟨e10, hle10, h⟩ := ob h
          refine G_sub (lv' := [(0, .ref o), (1, .int a1), (3, .int a3), (4, .int (0 : Int32))]) [1, 2, 4, 0] rfl ?_
          refine lpN_ind (P := fun u => GR κ p l e s m ([.ref o, .int a1, .int a2, .int a3] : List Value).toArray below meth c rmX10_task 7 o (some (Value.int q.1)) (RB κ o q.2) u.2 45 [(0, .ref o), (1, .int a1), (3, .int a3), (4, .int u.1)] []) (X := fun w => GR κ p l e s m ([.ref o, .int a1, .int a2, .int a3] : List Value).toArray below meth c rmX10_task 7 o (some (Value.int q.1)) (RB κ o q.2) w 142 [(0, .ref o), (1, .int a1)] []) (fun u y hb kc kx => tX10_task_L45 C hb kc kx) _ _ _ hle10 ?_
          refine G_aload_n (pc' := 143) C dX10_task_142 0 rfl rfl ?_
          refine G_iload_n (pc' := 144) C dX10_task_143 1 rfl rfl ?_
          obtain ⟨q11, hq11, h⟩ := ob h
          refine G_cV0 (pc' := 147) C dX10_task_144 (tX10_opens κ l o e10 a1 q11 hq11) (wV tw_ml_X10_130 tw_im_X10_opens tw_se_X10_X10_opens tw_in_X10 tw_co_X10_opens) yd_X10_opens rfl fi_X10 (RB_rd 0 rfl) rfl rfl (by decide) rfl (Nat.le_of_ble_eq_true rfl) rfl rfl ?_
          obtain rfl := Option.some.inj h
          exact G_iret C dX10_task_147 (fun _ h => h)
        · replace h := z_in hc h
          exact G_sub [] rfl (J25 r h)
theorem dX10_shows_0 : decode cX10_shows 0 = .ok (.iconst 0, 1) := by decide +kernel
theorem dX10_shows_1 : decode cX10_shows 1 = .ok (.istore_n 3, 1) := by decide +kernel
theorem dX10_shows_2 : decode cX10_shows 2 = .ok (.iload_n 3, 1) := by decide +kernel
theorem dX10_shows_3 : decode cX10_shows 3 = .ok (.aload_n 0, 1) := by decide +kernel
theorem dX10_shows_4 : decode cX10_shows 4 = .ok (.iload_n 1, 1) := by decide +kernel
theorem dX10_shows_5 : decode cX10_shows 5 = .ok (.invokevirtual 119, 3) := by decide +kernel
theorem dX10_shows_8 : decode cX10_shows 8 = .ok (.if_icmp .ge 31, 3) := by decide +kernel
theorem dX10_shows_11 : decode cX10_shows 11 = .ok (.aload_n 0, 1) := by decide +kernel
theorem dX10_shows_12 : decode cX10_shows 12 = .ok (.iload_n 1, 1) := by decide +kernel
theorem dX10_shows_13 : decode cX10_shows 13 = .ok (.iload_n 3, 1) := by decide +kernel
theorem dX10_shows_14 : decode cX10_shows 14 = .ok (.invokevirtual 123, 3) := by decide +kernel
theorem dX10_shows_17 : decode cX10_shows 17 = .ok (.iconst 2, 1) := by decide +kernel
theorem dX10_shows_18 : decode cX10_shows 18 = .ok (.if_icmp .ne 15, 3) := by decide +kernel
theorem dX10_shows_21 : decode cX10_shows 21 = .ok (.aload_n 0, 1) := by decide +kernel
theorem dX10_shows_22 : decode cX10_shows 22 = .ok (.iload_n 3, 1) := by decide +kernel
theorem dX10_shows_23 : decode cX10_shows 23 = .ok (.putfield 35, 3) := by decide +kernel
theorem dX10_shows_26 : decode cX10_shows 26 = .ok (.aload_n 0, 1) := by decide +kernel
theorem dX10_shows_27 : decode cX10_shows 27 = .ok (.iload_n 3, 1) := by decide +kernel
theorem dX10_shows_28 : decode cX10_shows 28 = .ok (.putfield 39, 3) := by decide +kernel
theorem dX10_shows_31 : decode cX10_shows 31 = .ok (.iconst 1, 1) := by decide +kernel
theorem dX10_shows_32 : decode cX10_shows 32 = .ok (.ireturn, 1) := by decide +kernel
theorem dX10_shows_33 : decode cX10_shows 33 = .ok (.iinc 3 1, 3) := by decide +kernel
theorem dX10_shows_36 : decode cX10_shows 36 = .ok (.goto (-34), 3) := by decide +kernel
theorem dX10_shows_39 : decode cX10_shows 39 = .ok (.iconst 0, 1) := by decide +kernel
theorem dX10_shows_40 : decode cX10_shows 40 = .ok (.istore_n 3, 1) := by decide +kernel
theorem dX10_shows_41 : decode cX10_shows 41 = .ok (.iload_n 3, 1) := by decide +kernel
theorem dX10_shows_42 : decode cX10_shows 42 = .ok (.aload_n 0, 1) := by decide +kernel
theorem dX10_shows_43 : decode cX10_shows 43 = .ok (.iload_n 1, 1) := by decide +kernel
theorem dX10_shows_44 : decode cX10_shows 44 = .ok (.invokevirtual 119, 3) := by decide +kernel
theorem dX10_shows_47 : decode cX10_shows 47 = .ok (.if_icmp .ge 120, 3) := by decide +kernel
theorem dX10_shows_50 : decode cX10_shows 50 = .ok (.iconst 0, 1) := by decide +kernel
theorem dX10_shows_51 : decode cX10_shows 51 = .ok (.istore 4, 2) := by decide +kernel
theorem dX10_shows_53 : decode cX10_shows 53 = .ok (.iload 4, 2) := by decide +kernel
theorem dX10_shows_55 : decode cX10_shows 55 = .ok (.aload_n 0, 1) := by decide +kernel
theorem dX10_shows_56 : decode cX10_shows 56 = .ok (.iload_n 1, 1) := by decide +kernel
theorem dX10_shows_57 : decode cX10_shows 57 = .ok (.invokevirtual 119, 3) := by decide +kernel
theorem dX10_shows_60 : decode cX10_shows 60 = .ok (.if_icmp .ge 101, 3) := by decide +kernel
theorem dX10_shows_63 : decode cX10_shows 63 = .ok (.iload_n 2, 1) := by decide +kernel
theorem dX10_shows_64 : decode cX10_shows 64 = .ok (.iconst 1, 1) := by decide +kernel
theorem dX10_shows_65 : decode cX10_shows 65 = .ok (.if_icmp .ne 33, 3) := by decide +kernel
theorem dX10_shows_68 : decode cX10_shows 68 = .ok (.iload_n 3, 1) := by decide +kernel
theorem dX10_shows_69 : decode cX10_shows 69 = .ok (.iload 4, 2) := by decide +kernel
theorem dX10_shows_71 : decode cX10_shows 71 = .ok (.iand, 1) := by decide +kernel
theorem dX10_shows_72 : decode cX10_shows 72 = .ok (.iload_n 3, 1) := by decide +kernel
theorem dX10_shows_73 : decode cX10_shows 73 = .ok (.if_icmp .ne 21, 3) := by decide +kernel
theorem dX10_shows_76 : decode cX10_shows 76 = .ok (.iload 4, 2) := by decide +kernel
theorem dX10_shows_78 : decode cX10_shows 78 = .ok (.invokestatic 145, 3) := by decide +kernel
theorem dX10_shows_81 : decode cX10_shows 81 = .ok (.iload_n 3, 1) := by decide +kernel
theorem dX10_shows_82 : decode cX10_shows 82 = .ok (.invokestatic 145, 3) := by decide +kernel
theorem dX10_shows_85 : decode cX10_shows 85 = .ok (.iconst 1, 1) := by decide +kernel
theorem dX10_shows_86 : decode cX10_shows 86 = .ok (.iadd, 1) := by decide +kernel
theorem dX10_shows_87 : decode cX10_shows 87 = .ok (.if_icmp .ne 7, 3) := by decide +kernel
theorem dX10_shows_90 : decode cX10_shows 90 = .ok (.iconst 1, 1) := by decide +kernel
theorem dX10_shows_91 : decode cX10_shows 91 = .ok (.goto 24, 3) := by decide +kernel
theorem dX10_shows_94 : decode cX10_shows 94 = .ok (.iconst 0, 1) := by decide +kernel
theorem dX10_shows_95 : decode cX10_shows 95 = .ok (.goto 20, 3) := by decide +kernel
theorem dX10_shows_98 : decode cX10_shows 98 = .ok (.iload_n 3, 1) := by decide +kernel
theorem dX10_shows_99 : decode cX10_shows 99 = .ok (.invokestatic 145, 3) := by decide +kernel
theorem dX10_shows_102 : decode cX10_shows 102 = .ok (.iload 4, 2) := by decide +kernel
theorem dX10_shows_104 : decode cX10_shows 104 = .ok (.invokestatic 145, 3) := by decide +kernel
theorem dX10_shows_107 : decode cX10_shows 107 = .ok (.if_icmp .ne 7, 3) := by decide +kernel
theorem dX10_shows_110 : decode cX10_shows 110 = .ok (.iconst 1, 1) := by decide +kernel
theorem dX10_shows_111 : decode cX10_shows 111 = .ok (.goto 4, 3) := by decide +kernel
theorem dX10_shows_114 : decode cX10_shows 114 = .ok (.iconst 0, 1) := by decide +kernel
theorem dX10_shows_115 : decode cX10_shows 115 = .ok (.istore 5, 2) := by decide +kernel
theorem dX10_shows_117 : decode cX10_shows 117 = .ok (.iload 5, 2) := by decide +kernel
theorem dX10_shows_119 : decode cX10_shows 119 = .ok (.ifCond .eq 36, 3) := by decide +kernel
theorem dX10_shows_122 : decode cX10_shows 122 = .ok (.aload_n 0, 1) := by decide +kernel
theorem dX10_shows_123 : decode cX10_shows 123 = .ok (.iload_n 1, 1) := by decide +kernel
theorem dX10_shows_124 : decode cX10_shows 124 = .ok (.iload_n 3, 1) := by decide +kernel
theorem dX10_shows_125 : decode cX10_shows 125 = .ok (.invokevirtual 123, 3) := by decide +kernel
theorem dX10_shows_128 : decode cX10_shows 128 = .ok (.iconst 1, 1) := by decide +kernel
theorem dX10_shows_129 : decode cX10_shows 129 = .ok (.if_icmp .ne 26, 3) := by decide +kernel
theorem dX10_shows_132 : decode cX10_shows 132 = .ok (.aload_n 0, 1) := by decide +kernel
theorem dX10_shows_133 : decode cX10_shows 133 = .ok (.iload_n 1, 1) := by decide +kernel
theorem dX10_shows_134 : decode cX10_shows 134 = .ok (.iload 4, 2) := by decide +kernel
theorem dX10_shows_136 : decode cX10_shows 136 = .ok (.invokevirtual 123, 3) := by decide +kernel
theorem dX10_shows_139 : decode cX10_shows 139 = .ok (.ifCond .ne 16, 3) := by decide +kernel
theorem dX10_shows_142 : decode cX10_shows 142 = .ok (.aload_n 0, 1) := by decide +kernel
theorem dX10_shows_143 : decode cX10_shows 143 = .ok (.iload_n 3, 1) := by decide +kernel
theorem dX10_shows_144 : decode cX10_shows 144 = .ok (.putfield 35, 3) := by decide +kernel
theorem dX10_shows_147 : decode cX10_shows 147 = .ok (.aload_n 0, 1) := by decide +kernel
theorem dX10_shows_148 : decode cX10_shows 148 = .ok (.iload 4, 2) := by decide +kernel
theorem dX10_shows_150 : decode cX10_shows 150 = .ok (.putfield 39, 3) := by decide +kernel
theorem dX10_shows_153 : decode cX10_shows 153 = .ok (.iconst 1, 1) := by decide +kernel
theorem dX10_shows_154 : decode cX10_shows 154 = .ok (.ireturn, 1) := by decide +kernel
theorem dX10_shows_155 : decode cX10_shows 155 = .ok (.iinc 4 1, 3) := by decide +kernel
theorem dX10_shows_158 : decode cX10_shows 158 = .ok (.goto (-105), 3) := by decide +kernel
theorem dX10_shows_161 : decode cX10_shows 161 = .ok (.iinc 3 1, 3) := by decide +kernel
theorem dX10_shows_164 : decode cX10_shows 164 = .ok (.goto (-123), 3) := by decide +kernel
theorem dX10_shows_167 : decode cX10_shows 167 = .ok (.iconst 0, 1) := by decide +kernel
theorem dX10_shows_168 : decode cX10_shows 168 = .ok (.ireturn, 1) := by decide +kernel
abbrev rmX10_shows : Room := { frames := 1, cells := 0, slots := 0, locals := 22 }
theorem yd_X10_shows : yX10_shows.cls = RX10 ∧ yX10_shows.cls ≠ "java/lang/invoke/MethodHandle" ∧ yX10_shows.cls ≠ "java/lang/invoke/VarHandle" ∧ (parseMethodDescriptor yX10_shows.desc).map (fun d => d.parameters.length) = some 2 := by decide +kernel
def fX10_shows_L2 (r : RS) (l1 : Int32) (l2 : Int32) (l3 : Int32) : Option ((Int32 × RS) ⊕ (RS ⊕ (Int32 × RS))) :=
  (fX10_inputs r l1).bind fun q1 =>
  if q1 ≤ l3 then
    some (.inr (.inl r))
  else
    (fX10_say0 r l1 l3).bind fun q2 =>
    if q2 = (2 : Int32) then
      some (.inr (.inr ((1 : Int32), (rI (rI r 3 l3) 4 l3))))
    else
      some (.inl ((l3 + (1 : Int32)), r))
def fX10_shows_L53_J155 (r : RS) (l1 : Int32) (l2 : Int32) (l3 : Int32) (l4 : Int32) : Option ((Int32 × RS) ⊕ (RS ⊕ (Int32 × RS))) :=
  some (.inl ((l4 + (1 : Int32)), r))
def fX10_shows_L53_J115 (r : RS) (l1 : Int32) (l2 : Int32) (l3 : Int32) (l4 : Int32) (s0 : Int32) : Option ((Int32 × RS) ⊕ (RS ⊕ (Int32 × RS))) :=
  if s0 = 0 then
    fX10_shows_L53_J155 r l1 l2 l3 l4
  else
    (fX10_say0 r l1 l3).bind fun q9 =>
    if q9 = (1 : Int32) then
      (fX10_say0 r l1 l4).bind fun q10 =>
      if q10 = 0 then
        some (.inr (.inr ((1 : Int32), (rI (rI r 3 l3) 4 l4))))
      else
        fX10_shows_L53_J155 r l1 l2 l3 l4
    else
      fX10_shows_L53_J155 r l1 l2 l3 l4
def fX10_shows_L53_J94 (r : RS) (l1 : Int32) (l2 : Int32) (l3 : Int32) (l4 : Int32) : Option ((Int32 × RS) ⊕ (RS ⊕ (Int32 × RS))) :=
  fX10_shows_L53_J115 r l1 l2 l3 l4 (0 : Int32)
def fX10_shows_L53 (r : RS) (l1 : Int32) (l2 : Int32) (l3 : Int32) (l4 : Int32) : Option ((Int32 × RS) ⊕ (RS ⊕ (Int32 × RS))) :=
  (fX10_inputs r l1).bind fun q6 =>
  if q6 ≤ l4 then
    some (.inr (.inl r))
  else
    if l2 = (1 : Int32) then
      if (l3 &&& l4) = l3 then
        (fX10_ones l4).bind fun q11 =>
        (fX10_ones l3).bind fun q12 =>
        if q11 = (q12 + (1 : Int32)) then
          fX10_shows_L53_J115 r l1 l2 l3 l4 (1 : Int32)
        else
          fX10_shows_L53_J94 r l1 l2 l3 l4
      else
        fX10_shows_L53_J94 r l1 l2 l3 l4
    else
      (fX10_ones l3).bind fun q7 =>
      (fX10_ones l4).bind fun q8 =>
      if q7 = q8 then
        fX10_shows_L53_J115 r l1 l2 l3 l4 (1 : Int32)
      else
        fX10_shows_L53_J115 r l1 l2 l3 l4 (0 : Int32)
def fX10_shows_L41 (r : RS) (l1 : Int32) (l2 : Int32) (l3 : Int32) : Option ((Int32 × RS) ⊕ (RS ⊕ (Int32 × RS))) :=
  (fX10_inputs r l1).bind fun q5 =>
  if q5 ≤ l3 then
    some (.inr (.inl r))
  else
    (lpN (fun u => fX10_shows_L53 u.2 l1 l2 l3 u.1) bigN ((0 : Int32), r)).bind fun e13 =>
    sel e13 (fun x14 =>
      some (.inl ((l3 + (1 : Int32)), x14))
      ) (fun rt => some (.inr (.inr rt)))
def fX10_shows (r : RS) (a1 : Int32) (a2 : Int32) : Option (Int32 × RS) :=
  (lpN (fun u => fX10_shows_L2 u.2 a1 a2 u.1) bigN ((0 : Int32), r)).bind fun e3 =>
  sel e3 (fun x4 =>
    (lpN (fun u => fX10_shows_L41 u.2 a1 a2 u.1) bigN ((0 : Int32), x4)).bind fun e15 =>
    sel e15 (fun x16 =>
      some ((0 : Int32), x16)
      ) (fun rt => some rt)
    ) (fun rt => some rt)
set_option maxHeartbeats 4000000 in
set_option maxRecDepth 100000 in
theorem tX10_shows_L2 {κ : KK} {p : Program} {l : Launch} {e : Env} {s : State} {m : MethodId} {args : Array Value} {below : List Frame} {meth : Method} {c : Code} (C : Cx κ p s m args meth c cX10_shows 6 RX10 (some .boolean)) {o : Nat} {v : Option Value} {B' : Heap → Prop} {r : RS} {l1 : Int32} {l2 : Int32} {l3 : Int32} {y : (Int32 × RS) ⊕ (RS ⊕ (Int32 × RS))} (h : fX10_shows_L2 r l1 l2 l3 = some y) (kc : ∀ u, y = .inl u → GR κ p l e s m args below meth c rmX10_shows 6 o v B' u.2 2 [(0, .ref o), (1, .int l1), (2, .int l2), (3, .int u.1)] []) (kx : ∀ w, y = .inr w → (∀ x, w = .inl x → GR κ p l e s m args below meth c rmX10_shows 6 o v B' x 39 [(0, .ref o), (1, .int l1), (2, .int l2)] []) ∧ (∀ rt, w = .inr rt → v = (some (Value.int rt.1)) ∧ B' = (RB κ o rt.2))) : GR κ p l e s m args below meth c rmX10_shows 6 o v B' r 2 [(0, .ref o), (1, .int l1), (2, .int l2), (3, .int l3)] [] := by
  unfold fX10_shows_L2 at h
  refine G_iload_n (pc' := 3) C dX10_shows_2 3 rfl rfl ?_
  refine G_aload_n (pc' := 4) C dX10_shows_3 0 rfl rfl ?_
  refine G_iload_n (pc' := 5) C dX10_shows_4 1 rfl rfl ?_
  obtain ⟨q1, hq1, h⟩ := ob h
  refine G_cV0 (pc' := 8) C dX10_shows_5 (tX10_inputs κ l o r l1 q1 hq1) (wV tw_ml_X10_119 tw_im_X10_inputs tw_se_X10_X10_inputs tw_in_X10 tw_co_X10_inputs) yd_X10_inputs rfl fi_X10 (RB_rd 0 rfl) rfl rfl (by decide) rfl (Nat.le_of_ble_eq_true rfl) rfl rfl ?_
  refine G_icmp_ge (tgt := 39) (pc' := 11) C dX10_shows_8 (by decide) rfl (fun hc => ?_) (fun hc => ?_)
  · replace h := z_ip hc h
    exact G_sub [0, 1, 2] rfl ((kx _ (Option.some.inj h).symm).1 _ rfl)
  · replace h := z_in hc h
    refine G_aload_n (pc' := 12) C dX10_shows_11 0 rfl rfl ?_
    refine G_iload_n (pc' := 13) C dX10_shows_12 1 rfl rfl ?_
    refine G_iload_n (pc' := 14) C dX10_shows_13 3 rfl rfl ?_
    obtain ⟨q2, hq2, h⟩ := ob h
    refine G_cV0 (pc' := 17) C dX10_shows_14 (tX10_say0 κ l o r l1 l3 q2 hq2) (wV tw_ml_X10_123 tw_im_X10_say0 tw_se_X10_X10_say0 tw_in_X10 tw_co_X10_say0) yd_X10_say0 rfl fi_X10 (RB_rd 0 rfl) rfl rfl (by decide) rfl (Nat.le_of_ble_eq_true rfl) rfl rfl ?_
    refine G_iconst (pc' := 18) (v := (2 : Int32)) C dX10_shows_17 (by decide) rfl ?_
    refine G_icmp_ne (tgt := 33) (pc' := 21) C dX10_shows_18 (by decide) rfl (fun hc => ?_) (fun hc => ?_)
    · replace h := z_in hc h
      refine G_iinc (pc' := 36) C dX10_shows_33 3 rfl rfl [(3, .int (l3 + (1 : Int32))), (0, .ref o), (1, .int l1), (2, .int l2)] (by decide) rfl rfl ?_
      refine G_goto (tgt := 2) C dX10_shows_36 (by decide) ?_
      exact G_sub [1, 2, 3, 0] rfl (kc _ (Option.some.inj h).symm)
    · replace h := z_ip hc h
      refine G_aload_n (pc' := 22) C dX10_shows_21 0 rfl rfl ?_
      refine G_iload_n (pc' := 23) C dX10_shows_22 3 rfl rfl ?_
      refine R_p_shownFirst (pc' := 26) C dX10_shows_23 rfl ?_
      refine G_aload_n (pc' := 27) C dX10_shows_26 0 rfl rfl ?_
      refine G_iload_n (pc' := 28) C dX10_shows_27 3 rfl rfl ?_
      refine R_p_shownSecond (pc' := 31) C dX10_shows_28 rfl ?_
      refine G_iconst (pc' := 32) (v := (1 : Int32)) C dX10_shows_31 (by decide) rfl ?_
      obtain ⟨hv, hB⟩ := (kx _ (Option.some.inj h).symm).2 _ rfl
      subst hv
      subst hB
      exact G_zret (v := (1 : Int32)) C rfl dX10_shows_32 (fun _ h => h)
set_option maxHeartbeats 4000000 in
set_option maxRecDepth 100000 in
theorem tX10_shows_L53 {κ : KK} {p : Program} {l : Launch} {e : Env} {s : State} {m : MethodId} {args : Array Value} {below : List Frame} {meth : Method} {c : Code} (C : Cx κ p s m args meth c cX10_shows 6 RX10 (some .boolean)) {o : Nat} {v : Option Value} {B' : Heap → Prop} {r : RS} {l1 : Int32} {l2 : Int32} {l3 : Int32} {l4 : Int32} {y : (Int32 × RS) ⊕ (RS ⊕ (Int32 × RS))} (h : fX10_shows_L53 r l1 l2 l3 l4 = some y) (kc : ∀ u, y = .inl u → GR κ p l e s m args below meth c rmX10_shows 6 o v B' u.2 53 [(0, .ref o), (1, .int l1), (2, .int l2), (3, .int l3), (4, .int u.1)] []) (kx : ∀ w, y = .inr w → (∀ x, w = .inl x → GR κ p l e s m args below meth c rmX10_shows 6 o v B' x 161 [(0, .ref o), (1, .int l1), (2, .int l2), (3, .int l3)] []) ∧ (∀ rt, w = .inr rt → v = (some (Value.int rt.1)) ∧ B' = (RB κ o rt.2))) : GR κ p l e s m args below meth c rmX10_shows 6 o v B' r 53 [(0, .ref o), (1, .int l1), (2, .int l2), (3, .int l3), (4, .int l4)] [] := by
  have J155 : ∀ (r : RS) (l4 : Int32), fX10_shows_L53_J155 r l1 l2 l3 l4 = some y → GR κ p l e s m args below meth c rmX10_shows 6 o v B' r 155 [(0, .ref o), (1, .int l1), (2, .int l2), (3, .int l3), (4, .int l4)] [] := by
    intro r l4 h
    unfold fX10_shows_L53_J155 at h
    refine G_iinc (pc' := 158) C dX10_shows_155 4 rfl rfl [(4, .int (l4 + (1 : Int32))), (0, .ref o), (1, .int l1), (2, .int l2), (3, .int l3)] (by decide) rfl rfl ?_
    refine G_goto (tgt := 53) C dX10_shows_158 (by decide) ?_
    exact G_sub [1, 2, 3, 4, 0] rfl (kc _ (Option.some.inj h).symm)
  have J115 : ∀ (r : RS) (l4 : Int32) (s0 : Int32), fX10_shows_L53_J115 r l1 l2 l3 l4 s0 = some y → GR κ p l e s m args below meth c rmX10_shows 6 o v B' r 115 [(0, .ref o), (1, .int l1), (2, .int l2), (3, .int l3), (4, .int l4)] [.int s0] := by
    intro r l4 s0 h
    unfold fX10_shows_L53_J115 at h
    refine G_istore (pc' := 117) C dX10_shows_115 [(5, .int s0), (0, .ref o), (1, .int l1), (2, .int l2), (3, .int l3), (4, .int l4)] (by decide) rfl rfl ?_
    refine G_iload (pc' := 119) C dX10_shows_117 0 rfl rfl ?_
    refine G_if_eq (tgt := 155) (pc' := 122) C dX10_shows_119 (by decide) rfl (fun hc => ?_) (fun hc => ?_)
    · replace h := z_ip hc h
      exact G_sub [1, 2, 3, 4, 5] rfl (J155 r l4 h)
    · replace h := z_in hc h
      refine G_aload_n (pc' := 123) C dX10_shows_122 1 rfl rfl ?_
      refine G_iload_n (pc' := 124) C dX10_shows_123 2 rfl rfl ?_
      refine G_iload_n (pc' := 125) C dX10_shows_124 4 rfl rfl ?_
      obtain ⟨q9, hq9, h⟩ := ob h
      refine G_cV0 (pc' := 128) C dX10_shows_125 (tX10_say0 κ l o r l1 l3 q9 hq9) (wV tw_ml_X10_123 tw_im_X10_say0 tw_se_X10_X10_say0 tw_in_X10 tw_co_X10_say0) yd_X10_say0 rfl fi_X10 (RB_rd 0 rfl) rfl rfl (by decide) rfl (Nat.le_of_ble_eq_true rfl) rfl rfl ?_
      refine G_iconst (pc' := 129) (v := (1 : Int32)) C dX10_shows_128 (by decide) rfl ?_
      refine G_icmp_ne (tgt := 155) (pc' := 132) C dX10_shows_129 (by decide) rfl (fun hc => ?_) (fun hc => ?_)
      · replace h := z_in hc h
        exact G_sub [1, 2, 3, 4, 5] rfl (J155 r l4 h)
      · replace h := z_ip hc h
        refine G_aload_n (pc' := 133) C dX10_shows_132 1 rfl rfl ?_
        refine G_iload_n (pc' := 134) C dX10_shows_133 2 rfl rfl ?_
        refine G_iload (pc' := 136) C dX10_shows_134 5 rfl rfl ?_
        obtain ⟨q10, hq10, h⟩ := ob h
        refine G_cV0 (pc' := 139) C dX10_shows_136 (tX10_say0 κ l o r l1 l4 q10 hq10) (wV tw_ml_X10_123 tw_im_X10_say0 tw_se_X10_X10_say0 tw_in_X10 tw_co_X10_say0) yd_X10_say0 rfl fi_X10 (RB_rd 0 rfl) rfl rfl (by decide) rfl (Nat.le_of_ble_eq_true rfl) rfl rfl ?_
        refine G_if_ne (tgt := 155) (pc' := 142) C dX10_shows_139 (by decide) rfl (fun hc => ?_) (fun hc => ?_)
        · replace h := z_in hc h
          exact G_sub [1, 2, 3, 4, 5] rfl (J155 r l4 h)
        · replace h := z_ip hc h
          refine G_aload_n (pc' := 143) C dX10_shows_142 1 rfl rfl ?_
          refine G_iload_n (pc' := 144) C dX10_shows_143 4 rfl rfl ?_
          refine R_p_shownFirst (pc' := 147) C dX10_shows_144 rfl ?_
          refine G_aload_n (pc' := 148) C dX10_shows_147 1 rfl rfl ?_
          refine G_iload (pc' := 150) C dX10_shows_148 5 rfl rfl ?_
          refine R_p_shownSecond (pc' := 153) C dX10_shows_150 rfl ?_
          refine G_iconst (pc' := 154) (v := (1 : Int32)) C dX10_shows_153 (by decide) rfl ?_
          obtain ⟨hv, hB⟩ := (kx _ (Option.some.inj h).symm).2 _ rfl
          subst hv
          subst hB
          exact G_zret (v := (1 : Int32)) C rfl dX10_shows_154 (fun _ h => h)
  have J94 : ∀ (r : RS) (l4 : Int32), fX10_shows_L53_J94 r l1 l2 l3 l4 = some y → GR κ p l e s m args below meth c rmX10_shows 6 o v B' r 94 [(0, .ref o), (1, .int l1), (2, .int l2), (3, .int l3), (4, .int l4)] [] := by
    intro r l4 h
    unfold fX10_shows_L53_J94 at h
    refine G_iconst (pc' := 95) (v := (0 : Int32)) C dX10_shows_94 (by decide) rfl ?_
    refine G_goto (tgt := 115) C dX10_shows_95 (by decide) ?_
    exact G_sub [0, 1, 2, 3, 4] rfl (J115 r l4 (0 : Int32) h)
  unfold fX10_shows_L53 at h
  refine G_iload (pc' := 55) C dX10_shows_53 4 rfl rfl ?_
  refine G_aload_n (pc' := 56) C dX10_shows_55 0 rfl rfl ?_
  refine G_iload_n (pc' := 57) C dX10_shows_56 1 rfl rfl ?_
  obtain ⟨q6, hq6, h⟩ := ob h
  refine G_cV0 (pc' := 60) C dX10_shows_57 (tX10_inputs κ l o r l1 q6 hq6) (wV tw_ml_X10_119 tw_im_X10_inputs tw_se_X10_X10_inputs tw_in_X10 tw_co_X10_inputs) yd_X10_inputs rfl fi_X10 (RB_rd 0 rfl) rfl rfl (by decide) rfl (Nat.le_of_ble_eq_true rfl) rfl rfl ?_
  refine G_icmp_ge (tgt := 161) (pc' := 63) C dX10_shows_60 (by decide) rfl (fun hc => ?_) (fun hc => ?_)
  · replace h := z_ip hc h
    exact G_sub [0, 1, 2, 3] rfl ((kx _ (Option.some.inj h).symm).1 _ rfl)
  · replace h := z_in hc h
    refine G_iload_n (pc' := 64) C dX10_shows_63 2 rfl rfl ?_
    refine G_iconst (pc' := 65) (v := (1 : Int32)) C dX10_shows_64 (by decide) rfl ?_
    refine G_icmp_ne (tgt := 98) (pc' := 68) C dX10_shows_65 (by decide) rfl (fun hc => ?_) (fun hc => ?_)
    · replace h := z_in hc h
      refine G_iload_n (pc' := 99) C dX10_shows_98 3 rfl rfl ?_
      obtain ⟨q7, hq7, h⟩ := ob h
      refine G_cS0 (pc' := 102) C dX10_shows_99 (tX10_ones κ l (RA o) (RB κ o r) l3 q7 hq7) (wS tw_ml_X10_145 tw_st_X10_ones tw_co_X10_ones tw_in_X10) yd_X10_ones rfl rfl rfl (by decide) rfl (Nat.le_of_ble_eq_true rfl) rfl rfl ?_
      refine G_iload (pc' := 104) C dX10_shows_102 4 rfl rfl ?_
      obtain ⟨q8, hq8, h⟩ := ob h
      refine G_cS0 (pc' := 107) C dX10_shows_104 (tX10_ones κ l (RA o) (RB κ o r) l4 q8 hq8) (wS tw_ml_X10_145 tw_st_X10_ones tw_co_X10_ones tw_in_X10) yd_X10_ones rfl rfl rfl (by decide) rfl (Nat.le_of_ble_eq_true rfl) rfl rfl ?_
      refine G_icmp_ne (tgt := 114) (pc' := 110) C dX10_shows_107 (by decide) rfl (fun hc => ?_) (fun hc => ?_)
      · replace h := z_in hc h
        refine G_iconst (pc' := 115) (v := (0 : Int32)) C dX10_shows_114 (by decide) rfl ?_
        exact G_sub [0, 1, 2, 3, 4] rfl (J115 r l4 (0 : Int32) h)
      · replace h := z_ip hc h
        refine G_iconst (pc' := 111) (v := (1 : Int32)) C dX10_shows_110 (by decide) rfl ?_
        refine G_goto (tgt := 115) C dX10_shows_111 (by decide) ?_
        exact G_sub [0, 1, 2, 3, 4] rfl (J115 r l4 (1 : Int32) h)
    · replace h := z_ip hc h
      refine G_iload_n (pc' := 69) C dX10_shows_68 3 rfl rfl ?_
      refine G_iload (pc' := 71) C dX10_shows_69 4 rfl rfl ?_
      refine G_iand (pc' := 72) C dX10_shows_71 rfl ?_
      refine G_iload_n (pc' := 73) C dX10_shows_72 3 rfl rfl ?_
      refine G_icmp_ne (tgt := 94) (pc' := 76) C dX10_shows_73 (by decide) rfl (fun hc => ?_) (fun hc => ?_)
      · replace h := z_in hc h
        exact G_sub [0, 1, 2, 3, 4] rfl (J94 r l4 h)
      · replace h := z_ip hc h
        refine G_iload (pc' := 78) C dX10_shows_76 4 rfl rfl ?_
        obtain ⟨q11, hq11, h⟩ := ob h
        refine G_cS0 (pc' := 81) C dX10_shows_78 (tX10_ones κ l (RA o) (RB κ o r) l4 q11 hq11) (wS tw_ml_X10_145 tw_st_X10_ones tw_co_X10_ones tw_in_X10) yd_X10_ones rfl rfl rfl (by decide) rfl (Nat.le_of_ble_eq_true rfl) rfl rfl ?_
        refine G_iload_n (pc' := 82) C dX10_shows_81 3 rfl rfl ?_
        obtain ⟨q12, hq12, h⟩ := ob h
        refine G_cS0 (pc' := 85) C dX10_shows_82 (tX10_ones κ l (RA o) (RB κ o r) l3 q12 hq12) (wS tw_ml_X10_145 tw_st_X10_ones tw_co_X10_ones tw_in_X10) yd_X10_ones rfl rfl rfl (by decide) rfl (Nat.le_of_ble_eq_true rfl) rfl rfl ?_
        refine G_iconst (pc' := 86) (v := (1 : Int32)) C dX10_shows_85 (by decide) rfl ?_
        refine G_iadd (pc' := 87) C dX10_shows_86 rfl ?_
        refine G_icmp_ne (tgt := 94) (pc' := 90) C dX10_shows_87 (by decide) rfl (fun hc => ?_) (fun hc => ?_)
        · replace h := z_in hc h
          exact G_sub [0, 1, 2, 3, 4] rfl (J94 r l4 h)
        · replace h := z_ip hc h
          refine G_iconst (pc' := 91) (v := (1 : Int32)) C dX10_shows_90 (by decide) rfl ?_
          refine G_goto (tgt := 115) C dX10_shows_91 (by decide) ?_
          exact G_sub [0, 1, 2, 3, 4] rfl (J115 r l4 (1 : Int32) h)
set_option maxHeartbeats 4000000 in
set_option maxRecDepth 100000 in
theorem tX10_shows_L41 {κ : KK} {p : Program} {l : Launch} {e : Env} {s : State} {m : MethodId} {args : Array Value} {below : List Frame} {meth : Method} {c : Code} (C : Cx κ p s m args meth c cX10_shows 6 RX10 (some .boolean)) {o : Nat} {v : Option Value} {B' : Heap → Prop} {r : RS} {l1 : Int32} {l2 : Int32} {l3 : Int32} {y : (Int32 × RS) ⊕ (RS ⊕ (Int32 × RS))} (h : fX10_shows_L41 r l1 l2 l3 = some y) (kc : ∀ u, y = .inl u → GR κ p l e s m args below meth c rmX10_shows 6 o v B' u.2 41 [(0, .ref o), (1, .int l1), (2, .int l2), (3, .int u.1)] []) (kx : ∀ w, y = .inr w → (∀ x, w = .inl x → GR κ p l e s m args below meth c rmX10_shows 6 o v B' x 167 [] []) ∧ (∀ rt, w = .inr rt → v = (some (Value.int rt.1)) ∧ B' = (RB κ o rt.2))) : GR κ p l e s m args below meth c rmX10_shows 6 o v B' r 41 [(0, .ref o), (1, .int l1), (2, .int l2), (3, .int l3)] [] := by
  unfold fX10_shows_L41 at h
  refine G_iload_n (pc' := 42) C dX10_shows_41 3 rfl rfl ?_
  refine G_aload_n (pc' := 43) C dX10_shows_42 0 rfl rfl ?_
  refine G_iload_n (pc' := 44) C dX10_shows_43 1 rfl rfl ?_
  obtain ⟨q5, hq5, h⟩ := ob h
  refine G_cV0 (pc' := 47) C dX10_shows_44 (tX10_inputs κ l o r l1 q5 hq5) (wV tw_ml_X10_119 tw_im_X10_inputs tw_se_X10_X10_inputs tw_in_X10 tw_co_X10_inputs) yd_X10_inputs rfl fi_X10 (RB_rd 0 rfl) rfl rfl (by decide) rfl (Nat.le_of_ble_eq_true rfl) rfl rfl ?_
  refine G_icmp_ge (tgt := 167) (pc' := 50) C dX10_shows_47 (by decide) rfl (fun hc => ?_) (fun hc => ?_)
  · replace h := z_ip hc h
    exact G_sub [] rfl ((kx _ (Option.some.inj h).symm).1 _ rfl)
  · replace h := z_in hc h
    refine G_iconst (pc' := 51) (v := (0 : Int32)) C dX10_shows_50 (by decide) rfl ?_
    refine G_istore (pc' := 53) C dX10_shows_51 [(4, .int (0 : Int32)), (0, .ref o), (1, .int l1), (2, .int l2), (3, .int l3)] (by decide) rfl rfl ?_
    obtain ⟨e13, hle13, h⟩ := ob h
    refine G_sub (lv' := [(0, .ref o), (1, .int l1), (2, .int l2), (3, .int l3), (4, .int (0 : Int32))]) [1, 2, 3, 4, 0] rfl ?_
    refine lpN_ind (P := fun u => GR κ p l e s m args below meth c rmX10_shows 6 o v B' u.2 53 [(0, .ref o), (1, .int l1), (2, .int l2), (3, .int l3), (4, .int u.1)] []) (X := fun w => (∀ x, w = .inl x → GR κ p l e s m args below meth c rmX10_shows 6 o v B' x 161 [(0, .ref o), (1, .int l1), (2, .int l2), (3, .int l3)] []) ∧ (∀ rt, w = .inr rt → v = (some (Value.int rt.1)) ∧ B' = (RB κ o rt.2))) (fun u y hb kc kx => tX10_shows_L53 C hb kc kx) _ _ _ hle13 ?_
    refine ⟨fun x14 hxx14 => ?_, fun rt hrt => ?_⟩
    · subst hxx14
      replace h := z_sl h
      refine G_iinc (pc' := 164) C dX10_shows_161 3 rfl rfl [(3, .int (l3 + (1 : Int32))), (0, .ref o), (1, .int l1), (2, .int l2)] (by decide) rfl rfl ?_
      refine G_goto (tgt := 41) C dX10_shows_164 (by decide) ?_
      exact G_sub [1, 2, 3, 0] rfl (kc _ (Option.some.inj h).symm)
    · subst hrt
      replace h := z_sr h
      exact (kx _ (Option.some.inj h).symm).2 _ rfl
set_option maxHeartbeats 4000000 in
set_option maxRecDepth 100000 in
theorem tX10_shows (κ : KK) (l : Launch) (o : Nat) (r : RS) (a1 : Int32) (a2 : Int32) (q : Int32 × RS) (h : fX10_shows r a1 a2 = some q) : MM κ l yX10_shows cX10_shows 6 (some .boolean) rmX10_shows (RA o) [.ref o, .int a1, .int a2] (RB κ o r) (some (Value.int q.1)) (RB κ o q.2) := by
  refine MM.of (by decide +kernel) (Nat.le_of_ble_eq_true rfl) ?_
  intro p e s m below meth c C hnm
  unfold fX10_shows at h
  refine G_sub (lv' := [(0, .ref o), (1, .int a1), (2, .int a2)]) [0, 1, 2] rfl ?_
  refine G_iconst (pc' := 1) (v := (0 : Int32)) C dX10_shows_0 (by decide) rfl ?_
  refine G_istore_n (pc' := 2) C dX10_shows_1 [(3, .int (0 : Int32)), (0, .ref o), (1, .int a1), (2, .int a2)] (by decide) rfl rfl ?_
  obtain ⟨e3, hle3, h⟩ := ob h
  refine G_sub (lv' := [(0, .ref o), (1, .int a1), (2, .int a2), (3, .int (0 : Int32))]) [1, 2, 3, 0] rfl ?_
  refine lpN_ind (P := fun u => GR κ p l e s m ([.ref o, .int a1, .int a2] : List Value).toArray below meth c rmX10_shows 6 o (some (Value.int q.1)) (RB κ o q.2) u.2 2 [(0, .ref o), (1, .int a1), (2, .int a2), (3, .int u.1)] []) (X := fun w => (∀ x, w = .inl x → GR κ p l e s m ([.ref o, .int a1, .int a2] : List Value).toArray below meth c rmX10_shows 6 o (some (Value.int q.1)) (RB κ o q.2) x 39 [(0, .ref o), (1, .int a1), (2, .int a2)] []) ∧ (∀ rt, w = .inr rt → (some (Value.int q.1)) = (some (Value.int rt.1)) ∧ (RB κ o q.2) = (RB κ o rt.2))) (fun u y hb kc kx => tX10_shows_L2 C hb kc kx) _ _ _ hle3 ?_
  refine ⟨fun x4 hxx4 => ?_, fun rt hrt => ?_⟩
  · subst hxx4
    replace h := z_sl h
    refine G_iconst (pc' := 40) (v := (0 : Int32)) C dX10_shows_39 (by decide) rfl ?_
    refine G_istore_n (pc' := 41) C dX10_shows_40 [(3, .int (0 : Int32)), (0, .ref o), (1, .int a1), (2, .int a2)] (by decide) rfl rfl ?_
    obtain ⟨e15, hle15, h⟩ := ob h
    refine G_sub (lv' := [(0, .ref o), (1, .int a1), (2, .int a2), (3, .int (0 : Int32))]) [1, 2, 3, 0] rfl ?_
    refine lpN_ind (P := fun u => GR κ p l e s m ([.ref o, .int a1, .int a2] : List Value).toArray below meth c rmX10_shows 6 o (some (Value.int q.1)) (RB κ o q.2) u.2 41 [(0, .ref o), (1, .int a1), (2, .int a2), (3, .int u.1)] []) (X := fun w => (∀ x, w = .inl x → GR κ p l e s m ([.ref o, .int a1, .int a2] : List Value).toArray below meth c rmX10_shows 6 o (some (Value.int q.1)) (RB κ o q.2) x 167 [] []) ∧ (∀ rt, w = .inr rt → (some (Value.int q.1)) = (some (Value.int rt.1)) ∧ (RB κ o q.2) = (RB κ o rt.2))) (fun u y hb kc kx => tX10_shows_L41 C hb kc kx) _ _ _ hle15 ?_
    refine ⟨fun x16 hxx16 => ?_, fun rt hrt => ?_⟩
    · subst hxx16
      replace h := z_sl h
      refine G_iconst (pc' := 168) (v := (0 : Int32)) C dX10_shows_167 (by decide) rfl ?_
      obtain rfl := Option.some.inj h
      exact G_zret (v := (0 : Int32)) C rfl dX10_shows_168 (fun _ h => h)
    · subst hrt
      replace h := z_sr h
      obtain rfl := Option.some.inj h
      exact ⟨rfl, rfl⟩
  · subst hrt
    replace h := z_sr h
    obtain rfl := Option.some.inj h
    exact ⟨rfl, rfl⟩
theorem dX10_kind_0 : decode cX10_kind 0 = .ok (.iload_n 1, 1) := by decide +kernel
theorem dX10_kind_1 : decode cX10_kind 1 = .ok (.invokestatic 115, 3) := by decide +kernel
theorem dX10_kind_4 : decode cX10_kind 4 = .ok (.ifCond .eq 12, 3) := by decide +kernel
theorem dX10_kind_7 : decode cX10_kind 7 = .ok (.iload_n 2, 1) := by decide +kernel
theorem dX10_kind_8 : decode cX10_kind 8 = .ok (.ifCond .lt 8, 3) := by decide +kernel
theorem dX10_kind_11 : decode cX10_kind 11 = .ok (.iload_n 2, 1) := by decide +kernel
theorem dX10_kind_12 : decode cX10_kind 12 = .ok (.iconst 2, 1) := by decide +kernel
theorem dX10_kind_13 : decode cX10_kind 13 = .ok (.if_icmp .le 6, 3) := by decide +kernel
theorem dX10_kind_16 : decode cX10_kind 16 = .ok (.bipush (-2), 2) := by decide +kernel
theorem dX10_kind_18 : decode cX10_kind 18 = .ok (.ireturn, 1) := by decide +kernel
theorem dX10_kind_19 : decode cX10_kind 19 = .ok (.aload_n 0, 1) := by decide +kernel
theorem dX10_kind_20 : decode cX10_kind 20 = .ok (.getfield 7, 3) := by decide +kernel
theorem dX10_kind_23 : decode cX10_kind 23 = .ok (.iload_n 1, 1) := by decide +kernel
theorem dX10_kind_24 : decode cX10_kind 24 = .ok (.iaload, 1) := by decide +kernel
theorem dX10_kind_25 : decode cX10_kind 25 = .ok (.ifCond .ne 10, 3) := by decide +kernel
theorem dX10_kind_28 : decode cX10_kind 28 = .ok (.aload_n 0, 1) := by decide +kernel
theorem dX10_kind_29 : decode cX10_kind 29 = .ok (.bipush (-10), 2) := by decide +kernel
theorem dX10_kind_31 : decode cX10_kind 31 = .ok (.invokevirtual 136, 3) := by decide +kernel
theorem dX10_kind_34 : decode cX10_kind 34 = .ok (.ireturn, 1) := by decide +kernel
theorem dX10_kind_35 : decode cX10_kind 35 = .ok (.iload_n 2, 1) := by decide +kernel
theorem dX10_kind_36 : decode cX10_kind 36 = .ok (.ifCond .eq 15, 3) := by decide +kernel
theorem dX10_kind_39 : decode cX10_kind 39 = .ok (.aload_n 0, 1) := by decide +kernel
theorem dX10_kind_40 : decode cX10_kind 40 = .ok (.iload_n 1, 1) := by decide +kernel
theorem dX10_kind_41 : decode cX10_kind 41 = .ok (.iload_n 2, 1) := by decide +kernel
theorem dX10_kind_42 : decode cX10_kind 42 = .ok (.invokevirtual 148, 3) := by decide +kernel
theorem dX10_kind_45 : decode cX10_kind 45 = .ok (.ifCond .eq 6, 3) := by decide +kernel
theorem dX10_kind_48 : decode cX10_kind 48 = .ok (.bipush (-3), 2) := by decide +kernel
theorem dX10_kind_50 : decode cX10_kind 50 = .ok (.ireturn, 1) := by decide +kernel
theorem dX10_kind_51 : decode cX10_kind 51 = .ok (.aload_n 0, 1) := by decide +kernel
theorem dX10_kind_52 : decode cX10_kind 52 = .ok (.getfield 13, 3) := by decide +kernel
theorem dX10_kind_55 : decode cX10_kind 55 = .ok (.iload_n 1, 1) := by decide +kernel
theorem dX10_kind_56 : decode cX10_kind 56 = .ok (.iaload, 1) := by decide +kernel
theorem dX10_kind_57 : decode cX10_kind 57 = .ok (.istore_n 3, 1) := by decide +kernel
theorem dX10_kind_58 : decode cX10_kind 58 = .ok (.aload_n 0, 1) := by decide +kernel
theorem dX10_kind_59 : decode cX10_kind 59 = .ok (.getfield 13, 3) := by decide +kernel
theorem dX10_kind_62 : decode cX10_kind 62 = .ok (.iload_n 1, 1) := by decide +kernel
theorem dX10_kind_63 : decode cX10_kind 63 = .ok (.iload_n 2, 1) := by decide +kernel
theorem dX10_kind_64 : decode cX10_kind 64 = .ok (.iastore, 1) := by decide +kernel
theorem dX10_kind_65 : decode cX10_kind 65 = .ok (.iload_n 3, 1) := by decide +kernel
theorem dX10_kind_66 : decode cX10_kind 66 = .ok (.ireturn, 1) := by decide +kernel
abbrev rmX10_kind : Room := { frames := 2, cells := 0, slots := 0, locals := 47 }
theorem yd_X10_kind : yX10_kind.cls = RX10 ∧ yX10_kind.cls ≠ "java/lang/invoke/MethodHandle" ∧ yX10_kind.cls ≠ "java/lang/invoke/VarHandle" ∧ (parseMethodDescriptor yX10_kind.desc).map (fun d => d.parameters.length) = some 2 := by decide +kernel
def fX10_kind_J51 (r : RS) (l1 : Int32) (l2 : Int32) : Option (Int32 × RS) :=
  (aI 16 (r.2.1 1) l1).bind fun v3 =>
  (sA r 1 16 l1 l2).bind fun r4 =>
  some (v3, r4)
def fX10_kind_J16 (r : RS) : Option (Int32 × RS) :=
  some ((-2 : Int32), r)
def fX10_kind (r : RS) (a1 : Int32) (a2 : Int32) : Option (Int32 × RS) :=
  (fX10_isPlace a1).bind fun q1 =>
  if q1 = 0 then
    fX10_kind_J16 r
  else
    if a2 < 0 then
      fX10_kind_J16 r
    else
      if a2 ≤ (2 : Int32) then
        (aI 16 (r.2.1 0) a1).bind fun v2 =>
        if v2 = 0 then
          (fX10_meet r (-10 : Int32)).bind fun q6 =>
          some (q6.1, q6.2)
        else
          if a2 = 0 then
            fX10_kind_J51 r a1 a2
          else
            (fX10_shows r a1 a2).bind fun q5 =>
            if q5.1 = 0 then
              fX10_kind_J51 q5.2 a1 a2
            else
              some ((-3 : Int32), q5.2)
      else
        fX10_kind_J16 r
set_option maxHeartbeats 4000000 in
set_option maxRecDepth 100000 in
theorem tX10_kind (κ : KK) (l : Launch) (o : Nat) (r : RS) (a1 : Int32) (a2 : Int32) (q : Int32 × RS) (h : fX10_kind r a1 a2 = some q) : MM κ l yX10_kind cX10_kind 4 (some .int) rmX10_kind (RA o) [.ref o, .int a1, .int a2] (RB κ o r) (some (Value.int q.1)) (RB κ o q.2) := by
  refine MM.of (by decide +kernel) (Nat.le_of_ble_eq_true rfl) ?_
  intro p e s m below meth c C hnm
  have J51 : ∀ (r : RS) (l1 : Int32) (l2 : Int32), fX10_kind_J51 r l1 l2 = some q → GR κ p l e s m ([.ref o, .int a1, .int a2] : List Value).toArray below meth c rmX10_kind 4 o (some (Value.int q.1)) (RB κ o q.2) r 51 [(0, .ref o), (1, .int l1), (2, .int l2)] [] := by
    intro r l1 l2 h
    unfold fX10_kind_J51 at h
    refine G_aload_n (pc' := 52) C dX10_kind_51 0 rfl rfl ?_
    refine R_g_kind (pc' := 55) C dX10_kind_52 rfl ?_
    refine G_iload_n (pc' := 56) C dX10_kind_55 1 rfl rfl ?_
    obtain ⟨v3, hv3, h⟩ := ob h
    refine R_l_kind (pc' := 57) C dX10_kind_56 hv3 rfl ?_
    refine G_istore_n (pc' := 58) C dX10_kind_57 [(3, .int v3), (0, .ref o), (1, .int l1), (2, .int l2)] (by decide) rfl rfl ?_
    refine G_aload_n (pc' := 59) C dX10_kind_58 1 rfl rfl ?_
    refine R_g_kind (pc' := 62) C dX10_kind_59 rfl ?_
    refine G_iload_n (pc' := 63) C dX10_kind_62 2 rfl rfl ?_
    refine G_iload_n (pc' := 64) C dX10_kind_63 3 rfl rfl ?_
    obtain ⟨r4, hr4, h⟩ := ob h
    refine R_s_kind (pc' := 65) C dX10_kind_64 hr4 rfl ?_
    refine G_iload_n (pc' := 66) C dX10_kind_65 0 rfl rfl ?_
    obtain rfl := Option.some.inj h
    exact G_iret C dX10_kind_66 (fun _ h => h)
  have J16 : ∀ (r : RS), fX10_kind_J16 r = some q → GR κ p l e s m ([.ref o, .int a1, .int a2] : List Value).toArray below meth c rmX10_kind 4 o (some (Value.int q.1)) (RB κ o q.2) r 16 [] [] := by
    intro r h
    unfold fX10_kind_J16 at h
    refine G_bipush (pc' := 18) (v := (-2 : Int32)) C dX10_kind_16 (by decide) rfl ?_
    obtain rfl := Option.some.inj h
    exact G_iret C dX10_kind_18 (fun _ h => h)
  unfold fX10_kind at h
  refine G_sub (lv' := [(0, .ref o), (1, .int a1), (2, .int a2)]) [0, 1, 2] rfl ?_
  refine G_iload_n (pc' := 1) C dX10_kind_0 1 rfl rfl ?_
  obtain ⟨q1, hq1, h⟩ := ob h
  refine G_cS0 (pc' := 4) C dX10_kind_1 (tX10_isPlace κ l (RA o) (RB κ o r) a1 q1 hq1) (wS tw_ml_X10_115 tw_st_X10_isPlace tw_co_X10_isPlace tw_in_X10) yd_X10_isPlace rfl rfl rfl (by decide) rfl (Nat.le_of_ble_eq_true rfl) rfl rfl ?_
  refine G_if_eq (tgt := 16) (pc' := 7) C dX10_kind_4 (by decide) rfl (fun hc => ?_) (fun hc => ?_)
  · replace h := z_ip hc h
    exact G_sub [] rfl (J16 r h)
  · replace h := z_in hc h
    refine G_iload_n (pc' := 8) C dX10_kind_7 2 rfl rfl ?_
    refine G_if_lt (tgt := 16) (pc' := 11) C dX10_kind_8 (by decide) rfl (fun hc => ?_) (fun hc => ?_)
    · replace h := z_ip hc h
      exact G_sub [] rfl (J16 r h)
    · replace h := z_in hc h
      refine G_iload_n (pc' := 12) C dX10_kind_11 2 rfl rfl ?_
      refine G_iconst (pc' := 13) (v := (2 : Int32)) C dX10_kind_12 (by decide) rfl ?_
      refine G_icmp_le (tgt := 19) (pc' := 16) C dX10_kind_13 (by decide) rfl (fun hc => ?_) (fun hc => ?_)
      · replace h := z_ip hc h
        refine G_aload_n (pc' := 20) C dX10_kind_19 0 rfl rfl ?_
        refine R_g_bits (pc' := 23) C dX10_kind_20 rfl ?_
        refine G_iload_n (pc' := 24) C dX10_kind_23 1 rfl rfl ?_
        obtain ⟨v2, hv2, h⟩ := ob h
        refine R_l_bits (pc' := 25) C dX10_kind_24 hv2 rfl ?_
        refine G_if_ne (tgt := 35) (pc' := 28) C dX10_kind_25 (by decide) rfl (fun hc => ?_) (fun hc => ?_)
        · replace h := z_in hc h
          refine G_iload_n (pc' := 36) C dX10_kind_35 2 rfl rfl ?_
          refine G_if_eq (tgt := 51) (pc' := 39) C dX10_kind_36 (by decide) rfl (fun hc => ?_) (fun hc => ?_)
          · replace h := z_ip hc h
            exact G_sub [0, 1, 2] rfl (J51 r a1 a2 h)
          · replace h := z_in hc h
            refine G_aload_n (pc' := 40) C dX10_kind_39 0 rfl rfl ?_
            refine G_iload_n (pc' := 41) C dX10_kind_40 1 rfl rfl ?_
            refine G_iload_n (pc' := 42) C dX10_kind_41 2 rfl rfl ?_
            obtain ⟨q5, hq5, h⟩ := ob h
            refine G_cV0 (pc' := 45) C dX10_kind_42 (tX10_shows κ l o r a1 a2 q5 hq5) (wV tw_ml_X10_148 tw_im_X10_shows tw_se_X10_X10_shows tw_in_X10 tw_co_X10_shows) yd_X10_shows rfl fi_X10 (RB_rd 0 rfl) rfl rfl (by decide) rfl (Nat.le_of_ble_eq_true rfl) rfl rfl ?_
            refine G_if_eq (tgt := 51) (pc' := 48) C dX10_kind_45 (by decide) rfl (fun hc => ?_) (fun hc => ?_)
            · replace h := z_ip hc h
              exact G_sub [0, 1, 2] rfl (J51 q5.2 a1 a2 h)
            · replace h := z_in hc h
              refine G_bipush (pc' := 50) (v := (-3 : Int32)) C dX10_kind_48 (by decide) rfl ?_
              obtain rfl := Option.some.inj h
              exact G_iret C dX10_kind_50 (fun _ h => h)
        · replace h := z_ip hc h
          refine G_aload_n (pc' := 29) C dX10_kind_28 0 rfl rfl ?_
          refine G_bipush (pc' := 31) (v := (-10 : Int32)) C dX10_kind_29 (by decide) rfl ?_
          obtain ⟨q6, hq6, h⟩ := ob h
          refine G_cV0 (pc' := 34) C dX10_kind_31 (tX10_meet κ l o r (-10 : Int32) q6 hq6) (wV tw_ml_X10_136 tw_im_X10_meet tw_se_X10_X10_meet tw_in_X10 tw_co_X10_meet) yd_X10_meet rfl fi_X10 (RB_rd 0 rfl) rfl rfl (by decide) rfl (Nat.le_of_ble_eq_true rfl) rfl rfl ?_
          obtain rfl := Option.some.inj h
          exact G_iret C dX10_kind_34 (fun _ h => h)
      · replace h := z_in hc h
        exact G_sub [] rfl (J16 r h)
theorem dX10_shown_0 : decode cX10_shown 0 = .ok (.iload_n 1, 1) := by decide +kernel
theorem dX10_shown_1 : decode cX10_shown 1 = .ok (.ifCond .ne 10, 3) := by decide +kernel
theorem dX10_shown_4 : decode cX10_shown 4 = .ok (.aload_n 0, 1) := by decide +kernel
theorem dX10_shown_5 : decode cX10_shown 5 = .ok (.getfield 35, 3) := by decide +kernel
theorem dX10_shown_8 : decode cX10_shown 8 = .ok (.goto 17, 3) := by decide +kernel
theorem dX10_shown_11 : decode cX10_shown 11 = .ok (.iload_n 1, 1) := by decide +kernel
theorem dX10_shown_12 : decode cX10_shown 12 = .ok (.iconst 1, 1) := by decide +kernel
theorem dX10_shown_13 : decode cX10_shown 13 = .ok (.if_icmp .ne 10, 3) := by decide +kernel
theorem dX10_shown_16 : decode cX10_shown 16 = .ok (.aload_n 0, 1) := by decide +kernel
theorem dX10_shown_17 : decode cX10_shown 17 = .ok (.getfield 39, 3) := by decide +kernel
theorem dX10_shown_20 : decode cX10_shown 20 = .ok (.goto 5, 3) := by decide +kernel
theorem dX10_shown_23 : decode cX10_shown 23 = .ok (.bipush (-2), 2) := by decide +kernel
theorem dX10_shown_25 : decode cX10_shown 25 = .ok (.ireturn, 1) := by decide +kernel
abbrev rmX10_shown : Room := { frames := 0, cells := 0, slots := 0, locals := 0 }
theorem yd_X10_shown : yX10_shown.cls = RX10 ∧ yX10_shown.cls ≠ "java/lang/invoke/MethodHandle" ∧ yX10_shown.cls ≠ "java/lang/invoke/VarHandle" ∧ (parseMethodDescriptor yX10_shown.desc).map (fun d => d.parameters.length) = some 1 := by decide +kernel
def fX10_shown (r : RS) (a1 : Int32) : Option (Int32) :=
  if a1 = 0 then
    some (r.1 3)
  else
    if a1 = (1 : Int32) then
      some (r.1 4)
    else
      some (-2 : Int32)
set_option maxHeartbeats 4000000 in
set_option maxRecDepth 100000 in
theorem tX10_shown (κ : KK) (l : Launch) (o : Nat) (r : RS) (a1 : Int32) (q : Int32) (h : fX10_shown r a1 = some q) : MM κ l yX10_shown cX10_shown 2 (some .int) rmX10_shown (RA o) [.ref o, .int a1] (RB κ o r) (some (Value.int q)) (RB κ o r) := by
  refine MM.of (by decide +kernel) (Nat.le_of_ble_eq_true rfl) ?_
  intro p e s m below meth c C hnm
  unfold fX10_shown at h
  refine G_sub (lv' := [(0, .ref o), (1, .int a1)]) [0, 1] rfl ?_
  refine G_iload_n (pc' := 1) C dX10_shown_0 1 rfl rfl ?_
  refine G_if_ne (tgt := 11) (pc' := 4) C dX10_shown_1 (by decide) rfl (fun hc => ?_) (fun hc => ?_)
  · replace h := z_in hc h
    refine G_iload_n (pc' := 12) C dX10_shown_11 1 rfl rfl ?_
    refine G_iconst (pc' := 13) (v := (1 : Int32)) C dX10_shown_12 (by decide) rfl ?_
    refine G_icmp_ne (tgt := 23) (pc' := 16) C dX10_shown_13 (by decide) rfl (fun hc => ?_) (fun hc => ?_)
    · replace h := z_in hc h
      refine G_bipush (pc' := 25) (v := (-2 : Int32)) C dX10_shown_23 (by decide) rfl ?_
      obtain rfl := Option.some.inj h
      exact G_iret C dX10_shown_25 (fun _ h => h)
    · replace h := z_ip hc h
      refine G_aload_n (pc' := 17) C dX10_shown_16 0 rfl rfl ?_
      refine R_g_shownSecond (pc' := 20) C dX10_shown_17 rfl ?_
      refine G_goto (tgt := 25) C dX10_shown_20 (by decide) ?_
      obtain rfl := Option.some.inj h
      exact G_iret C dX10_shown_25 (fun _ h => h)
  · replace h := z_ip hc h
    refine G_aload_n (pc' := 5) C dX10_shown_4 0 rfl rfl ?_
    refine R_g_shownFirst (pc' := 8) C dX10_shown_5 rfl ?_
    refine G_goto (tgt := 25) C dX10_shown_8 (by decide) ?_
    obtain rfl := Option.some.inj h
    exact G_iret C dX10_shown_25 (fun _ h => h)
theorem dX10_say_0 : decode cX10_say 0 = .ok (.aload_n 0, 1) := by decide +kernel
theorem dX10_say_1 : decode cX10_say 1 = .ok (.iload_n 1, 1) := by decide +kernel
theorem dX10_say_2 : decode cX10_say 2 = .ok (.invokevirtual 127, 3) := by decide +kernel
theorem dX10_say_5 : decode cX10_say 5 = .ok (.istore_n 3, 1) := by decide +kernel
theorem dX10_say_6 : decode cX10_say 6 = .ok (.iload_n 3, 1) := by decide +kernel
theorem dX10_say_7 : decode cX10_say 7 = .ok (.ifCond .eq 9, 3) := by decide +kernel
theorem dX10_say_10 : decode cX10_say 10 = .ok (.aload_n 0, 1) := by decide +kernel
theorem dX10_say_11 : decode cX10_say 11 = .ok (.iload_n 3, 1) := by decide +kernel
theorem dX10_say_12 : decode cX10_say 12 = .ok (.invokevirtual 136, 3) := by decide +kernel
theorem dX10_say_15 : decode cX10_say 15 = .ok (.ireturn, 1) := by decide +kernel
theorem dX10_say_16 : decode cX10_say 16 = .ok (.iload_n 2, 1) := by decide +kernel
theorem dX10_say_17 : decode cX10_say 17 = .ok (.ifCond .lt 12, 3) := by decide +kernel
theorem dX10_say_20 : decode cX10_say 20 = .ok (.iload_n 2, 1) := by decide +kernel
theorem dX10_say_21 : decode cX10_say 21 = .ok (.aload_n 0, 1) := by decide +kernel
theorem dX10_say_22 : decode cX10_say 22 = .ok (.iload_n 1, 1) := by decide +kernel
theorem dX10_say_23 : decode cX10_say 23 = .ok (.invokevirtual 119, 3) := by decide +kernel
theorem dX10_say_26 : decode cX10_say 26 = .ok (.if_icmp .lt 12, 3) := by decide +kernel
theorem dX10_say_29 : decode cX10_say 29 = .ok (.aload_n 0, 1) := by decide +kernel
theorem dX10_say_30 : decode cX10_say 30 = .ok (.bipush (-11), 2) := by decide +kernel
theorem dX10_say_32 : decode cX10_say 32 = .ok (.invokevirtual 136, 3) := by decide +kernel
theorem dX10_say_35 : decode cX10_say 35 = .ok (.goto 9, 3) := by decide +kernel
theorem dX10_say_38 : decode cX10_say 38 = .ok (.aload_n 0, 1) := by decide +kernel
theorem dX10_say_39 : decode cX10_say 39 = .ok (.iload_n 1, 1) := by decide +kernel
theorem dX10_say_40 : decode cX10_say 40 = .ok (.iload_n 2, 1) := by decide +kernel
theorem dX10_say_41 : decode cX10_say 41 = .ok (.invokevirtual 123, 3) := by decide +kernel
theorem dX10_say_44 : decode cX10_say 44 = .ok (.ireturn, 1) := by decide +kernel
abbrev rmX10_say : Room := { frames := 2, cells := 0, slots := 0, locals := 41 }
theorem yd_X10_say : yX10_say.cls = RX10 ∧ yX10_say.cls ≠ "java/lang/invoke/MethodHandle" ∧ yX10_say.cls ≠ "java/lang/invoke/VarHandle" ∧ (parseMethodDescriptor yX10_say.desc).map (fun d => d.parameters.length) = some 2 := by decide +kernel
def fX10_say_J29 (r : RS) : Option (Int32 × RS) :=
  (fX10_meet r (-11 : Int32)).bind fun q2 =>
  some (q2.1, q2.2)
def fX10_say (r : RS) (a1 : Int32) (a2 : Int32) : Option (Int32 × RS) :=
  (fX10_askPlace r a1).bind fun q1 =>
  if q1 = 0 then
    if a2 < 0 then
      fX10_say_J29 r
    else
      (fX10_inputs r a1).bind fun q3 =>
      if a2 < q3 then
        (fX10_say0 r a1 a2).bind fun q4 =>
        some (q4, r)
      else
        fX10_say_J29 r
  else
    (fX10_meet r q1).bind fun q5 =>
    some (q5.1, q5.2)
set_option maxHeartbeats 4000000 in
set_option maxRecDepth 100000 in
theorem tX10_say (κ : KK) (l : Launch) (o : Nat) (r : RS) (a1 : Int32) (a2 : Int32) (q : Int32 × RS) (h : fX10_say r a1 a2 = some q) : MM κ l yX10_say cX10_say 4 (some .int) rmX10_say (RA o) [.ref o, .int a1, .int a2] (RB κ o r) (some (Value.int q.1)) (RB κ o q.2) := by
  refine MM.of (by decide +kernel) (Nat.le_of_ble_eq_true rfl) ?_
  intro p e s m below meth c C hnm
  have J29 : ∀ (r : RS), fX10_say_J29 r = some q → GR κ p l e s m ([.ref o, .int a1, .int a2] : List Value).toArray below meth c rmX10_say 4 o (some (Value.int q.1)) (RB κ o q.2) r 29 [(0, .ref o)] [] := by
    intro r h
    unfold fX10_say_J29 at h
    refine G_aload_n (pc' := 30) C dX10_say_29 0 rfl rfl ?_
    refine G_bipush (pc' := 32) (v := (-11 : Int32)) C dX10_say_30 (by decide) rfl ?_
    obtain ⟨q2, hq2, h⟩ := ob h
    refine G_cV0 (pc' := 35) C dX10_say_32 (tX10_meet κ l o r (-11 : Int32) q2 hq2) (wV tw_ml_X10_136 tw_im_X10_meet tw_se_X10_X10_meet tw_in_X10 tw_co_X10_meet) yd_X10_meet rfl fi_X10 (RB_rd 0 rfl) rfl rfl (by decide) rfl (Nat.le_of_ble_eq_true rfl) rfl rfl ?_
    refine G_goto (tgt := 44) C dX10_say_35 (by decide) ?_
    obtain rfl := Option.some.inj h
    exact G_iret C dX10_say_44 (fun _ h => h)
  unfold fX10_say at h
  refine G_sub (lv' := [(0, .ref o), (1, .int a1), (2, .int a2)]) [0, 1, 2] rfl ?_
  refine G_aload_n (pc' := 1) C dX10_say_0 0 rfl rfl ?_
  refine G_iload_n (pc' := 2) C dX10_say_1 1 rfl rfl ?_
  obtain ⟨q1, hq1, h⟩ := ob h
  refine G_cV0 (pc' := 5) C dX10_say_2 (tX10_askPlace κ l o r a1 q1 hq1) (wV tw_ml_X10_127 tw_im_X10_askPlace tw_se_X10_X10_askPlace tw_in_X10 tw_co_X10_askPlace) yd_X10_askPlace rfl fi_X10 (RB_rd 0 rfl) rfl rfl (by decide) rfl (Nat.le_of_ble_eq_true rfl) rfl rfl ?_
  refine G_istore_n (pc' := 6) C dX10_say_5 [(3, .int q1), (0, .ref o), (1, .int a1), (2, .int a2)] (by decide) rfl rfl ?_
  refine G_iload_n (pc' := 7) C dX10_say_6 0 rfl rfl ?_
  refine G_if_eq (tgt := 16) (pc' := 10) C dX10_say_7 (by decide) rfl (fun hc => ?_) (fun hc => ?_)
  · replace h := z_ip hc h
    refine G_iload_n (pc' := 17) C dX10_say_16 3 rfl rfl ?_
    refine G_if_lt (tgt := 29) (pc' := 20) C dX10_say_17 (by decide) rfl (fun hc => ?_) (fun hc => ?_)
    · replace h := z_ip hc h
      exact G_sub [1] rfl (J29 r h)
    · replace h := z_in hc h
      refine G_iload_n (pc' := 21) C dX10_say_20 3 rfl rfl ?_
      refine G_aload_n (pc' := 22) C dX10_say_21 1 rfl rfl ?_
      refine G_iload_n (pc' := 23) C dX10_say_22 2 rfl rfl ?_
      obtain ⟨q3, hq3, h⟩ := ob h
      refine G_cV0 (pc' := 26) C dX10_say_23 (tX10_inputs κ l o r a1 q3 hq3) (wV tw_ml_X10_119 tw_im_X10_inputs tw_se_X10_X10_inputs tw_in_X10 tw_co_X10_inputs) yd_X10_inputs rfl fi_X10 (RB_rd 0 rfl) rfl rfl (by decide) rfl (Nat.le_of_ble_eq_true rfl) rfl rfl ?_
      refine G_icmp_lt (tgt := 38) (pc' := 29) C dX10_say_26 (by decide) rfl (fun hc => ?_) (fun hc => ?_)
      · replace h := z_ip hc h
        refine G_aload_n (pc' := 39) C dX10_say_38 1 rfl rfl ?_
        refine G_iload_n (pc' := 40) C dX10_say_39 2 rfl rfl ?_
        refine G_iload_n (pc' := 41) C dX10_say_40 3 rfl rfl ?_
        obtain ⟨q4, hq4, h⟩ := ob h
        refine G_cV0 (pc' := 44) C dX10_say_41 (tX10_say0 κ l o r a1 a2 q4 hq4) (wV tw_ml_X10_123 tw_im_X10_say0 tw_se_X10_X10_say0 tw_in_X10 tw_co_X10_say0) yd_X10_say0 rfl fi_X10 (RB_rd 0 rfl) rfl rfl (by decide) rfl (Nat.le_of_ble_eq_true rfl) rfl rfl ?_
        obtain rfl := Option.some.inj h
        exact G_iret C dX10_say_44 (fun _ h => h)
      · replace h := z_in hc h
        exact G_sub [1] rfl (J29 r h)
  · replace h := z_in hc h
    refine G_aload_n (pc' := 11) C dX10_say_10 1 rfl rfl ?_
    refine G_iload_n (pc' := 12) C dX10_say_11 0 rfl rfl ?_
    obtain ⟨q5, hq5, h⟩ := ob h
    refine G_cV0 (pc' := 15) C dX10_say_12 (tX10_meet κ l o r q1 q5 hq5) (wV tw_ml_X10_136 tw_im_X10_meet tw_se_X10_X10_meet tw_in_X10 tw_co_X10_meet) yd_X10_meet rfl fi_X10 (RB_rd 0 rfl) rfl rfl (by decide) rfl (Nat.le_of_ble_eq_true rfl) rfl rfl ?_
    obtain rfl := Option.some.inj h
    exact G_iret C dX10_say_15 (fun _ h => h)
theorem dX10_set_0 : decode cX10_set 0 = .ok (.iload_n 1, 1) := by decide +kernel
theorem dX10_set_1 : decode cX10_set 1 = .ok (.invokestatic 115, 3) := by decide +kernel
theorem dX10_set_4 : decode cX10_set 4 = .ok (.ifCond .eq 12, 3) := by decide +kernel
theorem dX10_set_7 : decode cX10_set 7 = .ok (.iload_n 3, 1) := by decide +kernel
theorem dX10_set_8 : decode cX10_set 8 = .ok (.ifCond .lt 8, 3) := by decide +kernel
theorem dX10_set_11 : decode cX10_set 11 = .ok (.iload_n 3, 1) := by decide +kernel
theorem dX10_set_12 : decode cX10_set 12 = .ok (.iconst 2, 1) := by decide +kernel
theorem dX10_set_13 : decode cX10_set 13 = .ok (.if_icmp .le 6, 3) := by decide +kernel
theorem dX10_set_16 : decode cX10_set 16 = .ok (.bipush (-2), 2) := by decide +kernel
theorem dX10_set_18 : decode cX10_set 18 = .ok (.ireturn, 1) := by decide +kernel
theorem dX10_set_19 : decode cX10_set 19 = .ok (.aload_n 0, 1) := by decide +kernel
theorem dX10_set_20 : decode cX10_set 20 = .ok (.getfield 7, 3) := by decide +kernel
theorem dX10_set_23 : decode cX10_set 23 = .ok (.iload_n 1, 1) := by decide +kernel
theorem dX10_set_24 : decode cX10_set 24 = .ok (.iaload, 1) := by decide +kernel
theorem dX10_set_25 : decode cX10_set 25 = .ok (.ifCond .ne 10, 3) := by decide +kernel
theorem dX10_set_28 : decode cX10_set 28 = .ok (.aload_n 0, 1) := by decide +kernel
theorem dX10_set_29 : decode cX10_set 29 = .ok (.bipush (-10), 2) := by decide +kernel
theorem dX10_set_31 : decode cX10_set 31 = .ok (.invokevirtual 136, 3) := by decide +kernel
theorem dX10_set_34 : decode cX10_set 34 = .ok (.ireturn, 1) := by decide +kernel
theorem dX10_set_35 : decode cX10_set 35 = .ok (.iload_n 2, 1) := by decide +kernel
theorem dX10_set_36 : decode cX10_set 36 = .ok (.ifCond .lt 12, 3) := by decide +kernel
theorem dX10_set_39 : decode cX10_set 39 = .ok (.iload_n 2, 1) := by decide +kernel
theorem dX10_set_40 : decode cX10_set 40 = .ok (.aload_n 0, 1) := by decide +kernel
theorem dX10_set_41 : decode cX10_set 41 = .ok (.iload_n 1, 1) := by decide +kernel
theorem dX10_set_42 : decode cX10_set 42 = .ok (.invokevirtual 119, 3) := by decide +kernel
theorem dX10_set_45 : decode cX10_set 45 = .ok (.if_icmp .lt 10, 3) := by decide +kernel
theorem dX10_set_48 : decode cX10_set 48 = .ok (.aload_n 0, 1) := by decide +kernel
theorem dX10_set_49 : decode cX10_set 49 = .ok (.bipush (-11), 2) := by decide +kernel
theorem dX10_set_51 : decode cX10_set 51 = .ok (.invokevirtual 136, 3) := by decide +kernel
theorem dX10_set_54 : decode cX10_set 54 = .ok (.ireturn, 1) := by decide +kernel
theorem dX10_set_55 : decode cX10_set 55 = .ok (.aload_n 0, 1) := by decide +kernel
theorem dX10_set_56 : decode cX10_set 56 = .ok (.iload_n 1, 1) := by decide +kernel
theorem dX10_set_57 : decode cX10_set 57 = .ok (.iload_n 2, 1) := by decide +kernel
theorem dX10_set_58 : decode cX10_set 58 = .ok (.invokevirtual 123, 3) := by decide +kernel
theorem dX10_set_61 : decode cX10_set 61 = .ok (.istore 4, 2) := by decide +kernel
theorem dX10_set_63 : decode cX10_set 63 = .ok (.aload_n 0, 1) := by decide +kernel
theorem dX10_set_64 : decode cX10_set 64 = .ok (.getfield 19, 3) := by decide +kernel
theorem dX10_set_67 : decode cX10_set 67 = .ok (.sipush 256, 3) := by decide +kernel
theorem dX10_set_70 : decode cX10_set 70 = .ok (.iload_n 1, 1) := by decide +kernel
theorem dX10_set_71 : decode cX10_set 71 = .ok (.imul, 1) := by decide +kernel
theorem dX10_set_72 : decode cX10_set 72 = .ok (.iload_n 2, 1) := by decide +kernel
theorem dX10_set_73 : decode cX10_set 73 = .ok (.iadd, 1) := by decide +kernel
theorem dX10_set_74 : decode cX10_set 74 = .ok (.iload_n 3, 1) := by decide +kernel
theorem dX10_set_75 : decode cX10_set 75 = .ok (.iastore, 1) := by decide +kernel
theorem dX10_set_76 : decode cX10_set 76 = .ok (.aload_n 0, 1) := by decide +kernel
theorem dX10_set_77 : decode cX10_set 77 = .ok (.getfield 13, 3) := by decide +kernel
theorem dX10_set_80 : decode cX10_set 80 = .ok (.iload_n 1, 1) := by decide +kernel
theorem dX10_set_81 : decode cX10_set 81 = .ok (.iconst 0, 1) := by decide +kernel
theorem dX10_set_82 : decode cX10_set 82 = .ok (.iastore, 1) := by decide +kernel
theorem dX10_set_83 : decode cX10_set 83 = .ok (.iload 4, 2) := by decide +kernel
theorem dX10_set_85 : decode cX10_set 85 = .ok (.ireturn, 1) := by decide +kernel
abbrev rmX10_set : Room := { frames := 1, cells := 0, slots := 0, locals := 22 }
theorem yd_X10_set : yX10_set.cls = RX10 ∧ yX10_set.cls ≠ "java/lang/invoke/MethodHandle" ∧ yX10_set.cls ≠ "java/lang/invoke/VarHandle" ∧ (parseMethodDescriptor yX10_set.desc).map (fun d => d.parameters.length) = some 3 := by decide +kernel
def fX10_set_J48 (r : RS) : Option (Int32 × RS) :=
  (fX10_meet r (-11 : Int32)).bind fun q3 =>
  some (q3.1, q3.2)
def fX10_set_J16 (r : RS) : Option (Int32 × RS) :=
  some ((-2 : Int32), r)
def fX10_set (r : RS) (a1 : Int32) (a2 : Int32) (a3 : Int32) : Option (Int32 × RS) :=
  (fX10_isPlace a1).bind fun q1 =>
  if q1 = 0 then
    fX10_set_J16 r
  else
    if a3 < 0 then
      fX10_set_J16 r
    else
      if a3 ≤ (2 : Int32) then
        (aI 16 (r.2.1 0) a1).bind fun v2 =>
        if v2 = 0 then
          (fX10_meet r (-10 : Int32)).bind fun q8 =>
          some (q8.1, q8.2)
        else
          if a2 < 0 then
            fX10_set_J48 r
          else
            (fX10_inputs r a1).bind fun q4 =>
            if a2 < q4 then
              (fX10_say0 r a1 a2).bind fun q5 =>
              (sA r 3 4096 (((256 : Int32) * a1) + a2) a3).bind fun r6 =>
              (sA r6 1 16 a1 (0 : Int32)).bind fun r7 =>
              some (q5, r7)
            else
              fX10_set_J48 r
      else
        fX10_set_J16 r
set_option maxHeartbeats 4000000 in
set_option maxRecDepth 100000 in
theorem tX10_set (κ : KK) (l : Launch) (o : Nat) (r : RS) (a1 : Int32) (a2 : Int32) (a3 : Int32) (q : Int32 × RS) (h : fX10_set r a1 a2 a3 = some q) : MM κ l yX10_set cX10_set 5 (some .int) rmX10_set (RA o) [.ref o, .int a1, .int a2, .int a3] (RB κ o r) (some (Value.int q.1)) (RB κ o q.2) := by
  refine MM.of (by decide +kernel) (Nat.le_of_ble_eq_true rfl) ?_
  intro p e s m below meth c C hnm
  have J48 : ∀ (r : RS), fX10_set_J48 r = some q → GR κ p l e s m ([.ref o, .int a1, .int a2, .int a3] : List Value).toArray below meth c rmX10_set 5 o (some (Value.int q.1)) (RB κ o q.2) r 48 [(0, .ref o)] [] := by
    intro r h
    unfold fX10_set_J48 at h
    refine G_aload_n (pc' := 49) C dX10_set_48 0 rfl rfl ?_
    refine G_bipush (pc' := 51) (v := (-11 : Int32)) C dX10_set_49 (by decide) rfl ?_
    obtain ⟨q3, hq3, h⟩ := ob h
    refine G_cV0 (pc' := 54) C dX10_set_51 (tX10_meet κ l o r (-11 : Int32) q3 hq3) (wV tw_ml_X10_136 tw_im_X10_meet tw_se_X10_X10_meet tw_in_X10 tw_co_X10_meet) yd_X10_meet rfl fi_X10 (RB_rd 0 rfl) rfl rfl (by decide) rfl (Nat.le_of_ble_eq_true rfl) rfl rfl ?_
    obtain rfl := Option.some.inj h
    exact G_iret C dX10_set_54 (fun _ h => h)
  have J16 : ∀ (r : RS), fX10_set_J16 r = some q → GR κ p l e s m ([.ref o, .int a1, .int a2, .int a3] : List Value).toArray below meth c rmX10_set 5 o (some (Value.int q.1)) (RB κ o q.2) r 16 [] [] := by
    intro r h
    unfold fX10_set_J16 at h
    refine G_bipush (pc' := 18) (v := (-2 : Int32)) C dX10_set_16 (by decide) rfl ?_
    obtain rfl := Option.some.inj h
    exact G_iret C dX10_set_18 (fun _ h => h)
  unfold fX10_set at h
  refine G_sub (lv' := [(0, .ref o), (1, .int a1), (2, .int a2), (3, .int a3)]) [0, 1, 2, 3] rfl ?_
  refine G_iload_n (pc' := 1) C dX10_set_0 1 rfl rfl ?_
  obtain ⟨q1, hq1, h⟩ := ob h
  refine G_cS0 (pc' := 4) C dX10_set_1 (tX10_isPlace κ l (RA o) (RB κ o r) a1 q1 hq1) (wS tw_ml_X10_115 tw_st_X10_isPlace tw_co_X10_isPlace tw_in_X10) yd_X10_isPlace rfl rfl rfl (by decide) rfl (Nat.le_of_ble_eq_true rfl) rfl rfl ?_
  refine G_if_eq (tgt := 16) (pc' := 7) C dX10_set_4 (by decide) rfl (fun hc => ?_) (fun hc => ?_)
  · replace h := z_ip hc h
    exact G_sub [] rfl (J16 r h)
  · replace h := z_in hc h
    refine G_iload_n (pc' := 8) C dX10_set_7 3 rfl rfl ?_
    refine G_if_lt (tgt := 16) (pc' := 11) C dX10_set_8 (by decide) rfl (fun hc => ?_) (fun hc => ?_)
    · replace h := z_ip hc h
      exact G_sub [] rfl (J16 r h)
    · replace h := z_in hc h
      refine G_iload_n (pc' := 12) C dX10_set_11 3 rfl rfl ?_
      refine G_iconst (pc' := 13) (v := (2 : Int32)) C dX10_set_12 (by decide) rfl ?_
      refine G_icmp_le (tgt := 19) (pc' := 16) C dX10_set_13 (by decide) rfl (fun hc => ?_) (fun hc => ?_)
      · replace h := z_ip hc h
        refine G_aload_n (pc' := 20) C dX10_set_19 0 rfl rfl ?_
        refine R_g_bits (pc' := 23) C dX10_set_20 rfl ?_
        refine G_iload_n (pc' := 24) C dX10_set_23 1 rfl rfl ?_
        obtain ⟨v2, hv2, h⟩ := ob h
        refine R_l_bits (pc' := 25) C dX10_set_24 hv2 rfl ?_
        refine G_if_ne (tgt := 35) (pc' := 28) C dX10_set_25 (by decide) rfl (fun hc => ?_) (fun hc => ?_)
        · replace h := z_in hc h
          refine G_iload_n (pc' := 36) C dX10_set_35 2 rfl rfl ?_
          refine G_if_lt (tgt := 48) (pc' := 39) C dX10_set_36 (by decide) rfl (fun hc => ?_) (fun hc => ?_)
          · replace h := z_ip hc h
            exact G_sub [0] rfl (J48 r h)
          · replace h := z_in hc h
            refine G_iload_n (pc' := 40) C dX10_set_39 2 rfl rfl ?_
            refine G_aload_n (pc' := 41) C dX10_set_40 0 rfl rfl ?_
            refine G_iload_n (pc' := 42) C dX10_set_41 1 rfl rfl ?_
            obtain ⟨q4, hq4, h⟩ := ob h
            refine G_cV0 (pc' := 45) C dX10_set_42 (tX10_inputs κ l o r a1 q4 hq4) (wV tw_ml_X10_119 tw_im_X10_inputs tw_se_X10_X10_inputs tw_in_X10 tw_co_X10_inputs) yd_X10_inputs rfl fi_X10 (RB_rd 0 rfl) rfl rfl (by decide) rfl (Nat.le_of_ble_eq_true rfl) rfl rfl ?_
            refine G_icmp_lt (tgt := 55) (pc' := 48) C dX10_set_45 (by decide) rfl (fun hc => ?_) (fun hc => ?_)
            · replace h := z_ip hc h
              refine G_aload_n (pc' := 56) C dX10_set_55 0 rfl rfl ?_
              refine G_iload_n (pc' := 57) C dX10_set_56 1 rfl rfl ?_
              refine G_iload_n (pc' := 58) C dX10_set_57 2 rfl rfl ?_
              obtain ⟨q5, hq5, h⟩ := ob h
              refine G_cV0 (pc' := 61) C dX10_set_58 (tX10_say0 κ l o r a1 a2 q5 hq5) (wV tw_ml_X10_123 tw_im_X10_say0 tw_se_X10_X10_say0 tw_in_X10 tw_co_X10_say0) yd_X10_say0 rfl fi_X10 (RB_rd 0 rfl) rfl rfl (by decide) rfl (Nat.le_of_ble_eq_true rfl) rfl rfl ?_
              refine G_istore (pc' := 63) C dX10_set_61 [(4, .int q5), (0, .ref o), (1, .int a1), (2, .int a2), (3, .int a3)] (by decide) rfl rfl ?_
              refine G_aload_n (pc' := 64) C dX10_set_63 1 rfl rfl ?_
              refine R_g_says (pc' := 67) C dX10_set_64 rfl ?_
              refine G_sipush (pc' := 70) (v := (256 : Int32)) C dX10_set_67 (by decide) rfl ?_
              refine G_iload_n (pc' := 71) C dX10_set_70 2 rfl rfl ?_
              refine G_imul (pc' := 72) C dX10_set_71 rfl ?_
              refine G_iload_n (pc' := 73) C dX10_set_72 3 rfl rfl ?_
              refine G_iadd (pc' := 74) C dX10_set_73 rfl ?_
              refine G_iload_n (pc' := 75) C dX10_set_74 4 rfl rfl ?_
              obtain ⟨r6, hr6, h⟩ := ob h
              refine R_s_says (pc' := 76) C dX10_set_75 hr6 rfl ?_
              refine G_aload_n (pc' := 77) C dX10_set_76 1 rfl rfl ?_
              refine R_g_kind (pc' := 80) C dX10_set_77 rfl ?_
              refine G_iload_n (pc' := 81) C dX10_set_80 2 rfl rfl ?_
              refine G_iconst (pc' := 82) (v := (0 : Int32)) C dX10_set_81 (by decide) rfl ?_
              obtain ⟨r7, hr7, h⟩ := ob h
              refine R_s_kind (pc' := 83) C dX10_set_82 hr7 rfl ?_
              refine G_iload (pc' := 85) C dX10_set_83 0 rfl rfl ?_
              obtain rfl := Option.some.inj h
              exact G_iret C dX10_set_85 (fun _ h => h)
            · replace h := z_in hc h
              exact G_sub [0] rfl (J48 r h)
        · replace h := z_ip hc h
          refine G_aload_n (pc' := 29) C dX10_set_28 0 rfl rfl ?_
          refine G_bipush (pc' := 31) (v := (-10 : Int32)) C dX10_set_29 (by decide) rfl ?_
          obtain ⟨q8, hq8, h⟩ := ob h
          refine G_cV0 (pc' := 34) C dX10_set_31 (tX10_meet κ l o r (-10 : Int32) q8 hq8) (wV tw_ml_X10_136 tw_im_X10_meet tw_se_X10_X10_meet tw_in_X10 tw_co_X10_meet) yd_X10_meet rfl fi_X10 (RB_rd 0 rfl) rfl rfl (by decide) rfl (Nat.le_of_ble_eq_true rfl) rfl rfl ?_
          obtain rfl := Option.some.inj h
          exact G_iret C dX10_set_34 (fun _ h => h)
      · replace h := z_in hc h
        exact G_sub [] rfl (J16 r h)
theorem dX10_worth_0 : decode cX10_worth 0 = .ok (.aload_n 0, 1) := by decide +kernel
theorem dX10_worth_1 : decode cX10_worth 1 = .ok (.getfield 13, 3) := by decide +kernel
theorem dX10_worth_4 : decode cX10_worth 4 = .ok (.iload_n 1, 1) := by decide +kernel
theorem dX10_worth_5 : decode cX10_worth 5 = .ok (.iaload, 1) := by decide +kernel
theorem dX10_worth_6 : decode cX10_worth 6 = .ok (.ifCond .ne 12, 3) := by decide +kernel
theorem dX10_worth_9 : decode cX10_worth 9 = .ok (.aload_n 0, 1) := by decide +kernel
theorem dX10_worth_10 : decode cX10_worth 10 = .ok (.getfield 7, 3) := by decide +kernel
theorem dX10_worth_13 : decode cX10_worth 13 = .ok (.iload_n 1, 1) := by decide +kernel
theorem dX10_worth_14 : decode cX10_worth 14 = .ok (.iaload, 1) := by decide +kernel
theorem dX10_worth_15 : decode cX10_worth 15 = .ok (.goto 53, 3) := by decide +kernel
theorem dX10_worth_18 : decode cX10_worth 18 = .ok (.aload_n 0, 1) := by decide +kernel
theorem dX10_worth_19 : decode cX10_worth 19 = .ok (.getfield 13, 3) := by decide +kernel
theorem dX10_worth_22 : decode cX10_worth 22 = .ok (.iload_n 1, 1) := by decide +kernel
theorem dX10_worth_23 : decode cX10_worth 23 = .ok (.iaload, 1) := by decide +kernel
theorem dX10_worth_24 : decode cX10_worth 24 = .ok (.iconst 3, 1) := by decide +kernel
theorem dX10_worth_25 : decode cX10_worth 25 = .ok (.if_icmp .ne 12, 3) := by decide +kernel
theorem dX10_worth_28 : decode cX10_worth 28 = .ok (.aload_n 0, 1) := by decide +kernel
theorem dX10_worth_29 : decode cX10_worth 29 = .ok (.getfield 16, 3) := by decide +kernel
theorem dX10_worth_32 : decode cX10_worth 32 = .ok (.iload_n 1, 1) := by decide +kernel
theorem dX10_worth_33 : decode cX10_worth 33 = .ok (.iaload, 1) := by decide +kernel
theorem dX10_worth_34 : decode cX10_worth 34 = .ok (.goto 34, 3) := by decide +kernel
theorem dX10_worth_37 : decode cX10_worth 37 = .ok (.aload_n 0, 1) := by decide +kernel
theorem dX10_worth_38 : decode cX10_worth 38 = .ok (.getfield 13, 3) := by decide +kernel
theorem dX10_worth_41 : decode cX10_worth 41 = .ok (.iload_n 1, 1) := by decide +kernel
theorem dX10_worth_42 : decode cX10_worth 42 = .ok (.iaload, 1) := by decide +kernel
theorem dX10_worth_43 : decode cX10_worth 43 = .ok (.iconst 4, 1) := by decide +kernel
theorem dX10_worth_44 : decode cX10_worth 44 = .ok (.if_icmp .ne 15, 3) := by decide +kernel
theorem dX10_worth_47 : decode cX10_worth 47 = .ok (.aload_n 0, 1) := by decide +kernel
theorem dX10_worth_48 : decode cX10_worth 48 = .ok (.getfield 7, 3) := by decide +kernel
theorem dX10_worth_51 : decode cX10_worth 51 = .ok (.iload_n 1, 1) := by decide +kernel
theorem dX10_worth_52 : decode cX10_worth 52 = .ok (.iaload, 1) := by decide +kernel
theorem dX10_worth_53 : decode cX10_worth 53 = .ok (.bipush 100, 2) := by decide +kernel
theorem dX10_worth_55 : decode cX10_worth 55 = .ok (.iadd, 1) := by decide +kernel
theorem dX10_worth_56 : decode cX10_worth 56 = .ok (.goto 12, 3) := by decide +kernel
theorem dX10_worth_59 : decode cX10_worth 59 = .ok (.aload_n 0, 1) := by decide +kernel
theorem dX10_worth_60 : decode cX10_worth 60 = .ok (.getfield 7, 3) := by decide +kernel
theorem dX10_worth_63 : decode cX10_worth 63 = .ok (.iload_n 1, 1) := by decide +kernel
theorem dX10_worth_64 : decode cX10_worth 64 = .ok (.iaload, 1) := by decide +kernel
theorem dX10_worth_65 : decode cX10_worth 65 = .ok (.bipush 10, 2) := by decide +kernel
theorem dX10_worth_67 : decode cX10_worth 67 = .ok (.iadd, 1) := by decide +kernel
theorem dX10_worth_68 : decode cX10_worth 68 = .ok (.ireturn, 1) := by decide +kernel
abbrev rmX10_worth : Room := { frames := 0, cells := 0, slots := 0, locals := 0 }
theorem yd_X10_worth : yX10_worth.cls = RX10 ∧ yX10_worth.cls ≠ "java/lang/invoke/MethodHandle" ∧ yX10_worth.cls ≠ "java/lang/invoke/VarHandle" ∧ (parseMethodDescriptor yX10_worth.desc).map (fun d => d.parameters.length) = some 1 := by decide +kernel
def fX10_worth (r : RS) (a1 : Int32) : Option (Int32) :=
  (aI 16 (r.2.1 1) a1).bind fun v1 =>
  if v1 = 0 then
    (aI 16 (r.2.1 0) a1).bind fun v7 =>
    some v7
  else
    (aI 16 (r.2.1 1) a1).bind fun v2 =>
    if v2 = (3 : Int32) then
      (aI 16 (r.2.1 2) a1).bind fun v6 =>
      some v6
    else
      (aI 16 (r.2.1 1) a1).bind fun v3 =>
      if v3 = (4 : Int32) then
        (aI 16 (r.2.1 0) a1).bind fun v5 =>
        some (v5 + (100 : Int32))
      else
        (aI 16 (r.2.1 0) a1).bind fun v4 =>
        some (v4 + (10 : Int32))
set_option maxHeartbeats 4000000 in
set_option maxRecDepth 100000 in
theorem tX10_worth (κ : KK) (l : Launch) (o : Nat) (r : RS) (a1 : Int32) (q : Int32) (h : fX10_worth r a1 = some q) : MM κ l yX10_worth cX10_worth 2 (some .int) rmX10_worth (RA o) [.ref o, .int a1] (RB κ o r) (some (Value.int q)) (RB κ o r) := by
  refine MM.of (by decide +kernel) (Nat.le_of_ble_eq_true rfl) ?_
  intro p e s m below meth c C hnm
  unfold fX10_worth at h
  refine G_sub (lv' := [(0, .ref o), (1, .int a1)]) [0, 1] rfl ?_
  refine G_aload_n (pc' := 1) C dX10_worth_0 0 rfl rfl ?_
  refine R_g_kind (pc' := 4) C dX10_worth_1 rfl ?_
  refine G_iload_n (pc' := 5) C dX10_worth_4 1 rfl rfl ?_
  obtain ⟨v1, hv1, h⟩ := ob h
  refine R_l_kind (pc' := 6) C dX10_worth_5 hv1 rfl ?_
  refine G_if_ne (tgt := 18) (pc' := 9) C dX10_worth_6 (by decide) rfl (fun hc => ?_) (fun hc => ?_)
  · replace h := z_in hc h
    refine G_aload_n (pc' := 19) C dX10_worth_18 0 rfl rfl ?_
    refine R_g_kind (pc' := 22) C dX10_worth_19 rfl ?_
    refine G_iload_n (pc' := 23) C dX10_worth_22 1 rfl rfl ?_
    obtain ⟨v2, hv2, h⟩ := ob h
    refine R_l_kind (pc' := 24) C dX10_worth_23 hv2 rfl ?_
    refine G_iconst (pc' := 25) (v := (3 : Int32)) C dX10_worth_24 (by decide) rfl ?_
    refine G_icmp_ne (tgt := 37) (pc' := 28) C dX10_worth_25 (by decide) rfl (fun hc => ?_) (fun hc => ?_)
    · replace h := z_in hc h
      refine G_aload_n (pc' := 38) C dX10_worth_37 0 rfl rfl ?_
      refine R_g_kind (pc' := 41) C dX10_worth_38 rfl ?_
      refine G_iload_n (pc' := 42) C dX10_worth_41 1 rfl rfl ?_
      obtain ⟨v3, hv3, h⟩ := ob h
      refine R_l_kind (pc' := 43) C dX10_worth_42 hv3 rfl ?_
      refine G_iconst (pc' := 44) (v := (4 : Int32)) C dX10_worth_43 (by decide) rfl ?_
      refine G_icmp_ne (tgt := 59) (pc' := 47) C dX10_worth_44 (by decide) rfl (fun hc => ?_) (fun hc => ?_)
      · replace h := z_in hc h
        refine G_aload_n (pc' := 60) C dX10_worth_59 0 rfl rfl ?_
        refine R_g_bits (pc' := 63) C dX10_worth_60 rfl ?_
        refine G_iload_n (pc' := 64) C dX10_worth_63 1 rfl rfl ?_
        obtain ⟨v4, hv4, h⟩ := ob h
        refine R_l_bits (pc' := 65) C dX10_worth_64 hv4 rfl ?_
        refine G_bipush (pc' := 67) (v := (10 : Int32)) C dX10_worth_65 (by decide) rfl ?_
        refine G_iadd (pc' := 68) C dX10_worth_67 rfl ?_
        obtain rfl := Option.some.inj h
        exact G_iret C dX10_worth_68 (fun _ h => h)
      · replace h := z_ip hc h
        refine G_aload_n (pc' := 48) C dX10_worth_47 0 rfl rfl ?_
        refine R_g_bits (pc' := 51) C dX10_worth_48 rfl ?_
        refine G_iload_n (pc' := 52) C dX10_worth_51 1 rfl rfl ?_
        obtain ⟨v5, hv5, h⟩ := ob h
        refine R_l_bits (pc' := 53) C dX10_worth_52 hv5 rfl ?_
        refine G_bipush (pc' := 55) (v := (100 : Int32)) C dX10_worth_53 (by decide) rfl ?_
        refine G_iadd (pc' := 56) C dX10_worth_55 rfl ?_
        refine G_goto (tgt := 68) C dX10_worth_56 (by decide) ?_
        obtain rfl := Option.some.inj h
        exact G_iret C dX10_worth_68 (fun _ h => h)
    · replace h := z_ip hc h
      refine G_aload_n (pc' := 29) C dX10_worth_28 0 rfl rfl ?_
      refine R_g_putWorth (pc' := 32) C dX10_worth_29 rfl ?_
      refine G_iload_n (pc' := 33) C dX10_worth_32 1 rfl rfl ?_
      obtain ⟨v6, hv6, h⟩ := ob h
      refine R_l_putWorth (pc' := 34) C dX10_worth_33 hv6 rfl ?_
      refine G_goto (tgt := 68) C dX10_worth_34 (by decide) ?_
      obtain rfl := Option.some.inj h
      exact G_iret C dX10_worth_68 (fun _ h => h)
  · replace h := z_ip hc h
    refine G_aload_n (pc' := 10) C dX10_worth_9 0 rfl rfl ?_
    refine R_g_bits (pc' := 13) C dX10_worth_10 rfl ?_
    refine G_iload_n (pc' := 14) C dX10_worth_13 1 rfl rfl ?_
    obtain ⟨v7, hv7, h⟩ := ob h
    refine R_l_bits (pc' := 15) C dX10_worth_14 hv7 rfl ?_
    refine G_goto (tgt := 68) C dX10_worth_15 (by decide) ?_
    obtain rfl := Option.some.inj h
    exact G_iret C dX10_worth_68 (fun _ h => h)
theorem dX10_of_0 : decode cX10_of 0 = .ok (.iload_n 1, 1) := by decide +kernel
theorem dX10_of_1 : decode cX10_of 1 = .ok (.invokestatic 115, 3) := by decide +kernel
theorem dX10_of_4 : decode cX10_of 4 = .ok (.ifCond .eq 12, 3) := by decide +kernel
theorem dX10_of_7 : decode cX10_of 7 = .ok (.iload_n 2, 1) := by decide +kernel
theorem dX10_of_8 : decode cX10_of 8 = .ok (.ifCond .lt 8, 3) := by decide +kernel
theorem dX10_of_11 : decode cX10_of 11 = .ok (.iload_n 2, 1) := by decide +kernel
theorem dX10_of_12 : decode cX10_of 12 = .ok (.iconst 4, 1) := by decide +kernel
theorem dX10_of_13 : decode cX10_of 13 = .ok (.if_icmp .le 6, 3) := by decide +kernel
theorem dX10_of_16 : decode cX10_of 16 = .ok (.bipush (-2), 2) := by decide +kernel
theorem dX10_of_18 : decode cX10_of 18 = .ok (.ireturn, 1) := by decide +kernel
theorem dX10_of_19 : decode cX10_of 19 = .ok (.aload_n 0, 1) := by decide +kernel
theorem dX10_of_20 : decode cX10_of 20 = .ok (.getfield 7, 3) := by decide +kernel
theorem dX10_of_23 : decode cX10_of 23 = .ok (.iload_n 1, 1) := by decide +kernel
theorem dX10_of_24 : decode cX10_of 24 = .ok (.iaload, 1) := by decide +kernel
theorem dX10_of_25 : decode cX10_of 25 = .ok (.ifCond .ne 10, 3) := by decide +kernel
theorem dX10_of_28 : decode cX10_of 28 = .ok (.aload_n 0, 1) := by decide +kernel
theorem dX10_of_29 : decode cX10_of 29 = .ok (.bipush (-10), 2) := by decide +kernel
theorem dX10_of_31 : decode cX10_of 31 = .ok (.invokevirtual 136, 3) := by decide +kernel
theorem dX10_of_34 : decode cX10_of 34 = .ok (.ireturn, 1) := by decide +kernel
theorem dX10_of_35 : decode cX10_of 35 = .ok (.iconst 0, 1) := by decide +kernel
theorem dX10_of_36 : decode cX10_of 36 = .ok (.istore_n 3, 1) := by decide +kernel
theorem dX10_of_37 : decode cX10_of 37 = .ok (.iconst 0, 1) := by decide +kernel
theorem dX10_of_38 : decode cX10_of 38 = .ok (.istore 4, 2) := by decide +kernel
theorem dX10_of_40 : decode cX10_of 40 = .ok (.iload 4, 2) := by decide +kernel
theorem dX10_of_42 : decode cX10_of 42 = .ok (.aload_n 0, 1) := by decide +kernel
theorem dX10_of_43 : decode cX10_of 43 = .ok (.iload_n 1, 1) := by decide +kernel
theorem dX10_of_44 : decode cX10_of 44 = .ok (.invokevirtual 119, 3) := by decide +kernel
theorem dX10_of_47 : decode cX10_of 47 = .ok (.if_icmp .ge 28, 3) := by decide +kernel
theorem dX10_of_50 : decode cX10_of 50 = .ok (.iload_n 3, 1) := by decide +kernel
theorem dX10_of_51 : decode cX10_of 51 = .ok (.aload_n 0, 1) := by decide +kernel
theorem dX10_of_52 : decode cX10_of 52 = .ok (.iload_n 1, 1) := by decide +kernel
theorem dX10_of_53 : decode cX10_of 53 = .ok (.iload 4, 2) := by decide +kernel
theorem dX10_of_55 : decode cX10_of 55 = .ok (.invokevirtual 123, 3) := by decide +kernel
theorem dX10_of_58 : decode cX10_of 58 = .ok (.iconst 1, 1) := by decide +kernel
theorem dX10_of_59 : decode cX10_of 59 = .ok (.if_icmp .ne 7, 3) := by decide +kernel
theorem dX10_of_62 : decode cX10_of 62 = .ok (.iconst 1, 1) := by decide +kernel
theorem dX10_of_63 : decode cX10_of 63 = .ok (.goto 4, 3) := by decide +kernel
theorem dX10_of_66 : decode cX10_of 66 = .ok (.iconst 0, 1) := by decide +kernel
theorem dX10_of_67 : decode cX10_of 67 = .ok (.iadd, 1) := by decide +kernel
theorem dX10_of_68 : decode cX10_of 68 = .ok (.istore_n 3, 1) := by decide +kernel
theorem dX10_of_69 : decode cX10_of 69 = .ok (.iinc 4 1, 3) := by decide +kernel
theorem dX10_of_72 : decode cX10_of 72 = .ok (.goto (-32), 3) := by decide +kernel
theorem dX10_of_75 : decode cX10_of 75 = .ok (.iload_n 2, 1) := by decide +kernel
theorem dX10_of_76 : decode cX10_of 76 = .ok (.ifCond .ne 12, 3) := by decide +kernel
theorem dX10_of_79 : decode cX10_of 79 = .ok (.aload_n 0, 1) := by decide +kernel
theorem dX10_of_80 : decode cX10_of 80 = .ok (.getfield 13, 3) := by decide +kernel
theorem dX10_of_83 : decode cX10_of 83 = .ok (.iload_n 1, 1) := by decide +kernel
theorem dX10_of_84 : decode cX10_of 84 = .ok (.iaload, 1) := by decide +kernel
theorem dX10_of_85 : decode cX10_of 85 = .ok (.goto 44, 3) := by decide +kernel
theorem dX10_of_88 : decode cX10_of 88 = .ok (.iload_n 2, 1) := by decide +kernel
theorem dX10_of_89 : decode cX10_of 89 = .ok (.iconst 1, 1) := by decide +kernel
theorem dX10_of_90 : decode cX10_of 90 = .ok (.if_icmp .ne 12, 3) := by decide +kernel
theorem dX10_of_93 : decode cX10_of 93 = .ok (.aload_n 0, 1) := by decide +kernel
theorem dX10_of_94 : decode cX10_of 94 = .ok (.getfield 7, 3) := by decide +kernel
theorem dX10_of_97 : decode cX10_of 97 = .ok (.iload_n 1, 1) := by decide +kernel
theorem dX10_of_98 : decode cX10_of 98 = .ok (.iaload, 1) := by decide +kernel
theorem dX10_of_99 : decode cX10_of 99 = .ok (.goto 30, 3) := by decide +kernel
theorem dX10_of_102 : decode cX10_of 102 = .ok (.iload_n 2, 1) := by decide +kernel
theorem dX10_of_103 : decode cX10_of 103 = .ok (.iconst 2, 1) := by decide +kernel
theorem dX10_of_104 : decode cX10_of 104 = .ok (.if_icmp .ne 7, 3) := by decide +kernel
theorem dX10_of_107 : decode cX10_of 107 = .ok (.iload_n 3, 1) := by decide +kernel
theorem dX10_of_108 : decode cX10_of 108 = .ok (.goto 21, 3) := by decide +kernel
theorem dX10_of_111 : decode cX10_of 111 = .ok (.iload_n 2, 1) := by decide +kernel
theorem dX10_of_112 : decode cX10_of 112 = .ok (.iconst 3, 1) := by decide +kernel
theorem dX10_of_113 : decode cX10_of 113 = .ok (.if_icmp .ne 11, 3) := by decide +kernel
theorem dX10_of_116 : decode cX10_of 116 = .ok (.aload_n 0, 1) := by decide +kernel
theorem dX10_of_117 : decode cX10_of 117 = .ok (.iload_n 1, 1) := by decide +kernel
theorem dX10_of_118 : decode cX10_of 118 = .ok (.invokevirtual 130, 3) := by decide +kernel
theorem dX10_of_121 : decode cX10_of 121 = .ok (.goto 8, 3) := by decide +kernel
theorem dX10_of_124 : decode cX10_of 124 = .ok (.aload_n 0, 1) := by decide +kernel
theorem dX10_of_125 : decode cX10_of 125 = .ok (.iload_n 1, 1) := by decide +kernel
theorem dX10_of_126 : decode cX10_of 126 = .ok (.invokevirtual 152, 3) := by decide +kernel
theorem dX10_of_129 : decode cX10_of 129 = .ok (.ireturn, 1) := by decide +kernel
abbrev rmX10_of : Room := { frames := 2, cells := 0, slots := 0, locals := 45 }
theorem yd_X10_of : yX10_of.cls = RX10 ∧ yX10_of.cls ≠ "java/lang/invoke/MethodHandle" ∧ yX10_of.cls ≠ "java/lang/invoke/VarHandle" ∧ (parseMethodDescriptor yX10_of.desc).map (fun d => d.parameters.length) = some 2 := by decide +kernel
def fX10_of_L40_J67 (r : RS) (l1 : Int32) (l2 : Int32) (l4 : Int32) (s0 : Int32) (s1 : Int32) : Option ((Int32 × Int32) ⊕ Int32) :=
  some (.inl ((s1 + s0), (l4 + (1 : Int32))))
def fX10_of_L40 (r : RS) (l1 : Int32) (l2 : Int32) (l3 : Int32) (l4 : Int32) : Option ((Int32 × Int32) ⊕ Int32) :=
  (fX10_inputs r l1).bind fun q3 =>
  if q3 ≤ l4 then
    some (.inr l3)
  else
    (fX10_say0 r l1 l4).bind fun q4 =>
    if q4 = (1 : Int32) then
      fX10_of_L40_J67 r l1 l2 l4 (1 : Int32) l3
    else
      fX10_of_L40_J67 r l1 l2 l4 (0 : Int32) l3
def fX10_of_J16 (r : RS) : Option (Int32 × RS) :=
  some ((-2 : Int32), r)
def fX10_of (r : RS) (a1 : Int32) (a2 : Int32) : Option (Int32 × RS) :=
  (fX10_isPlace a1).bind fun q1 =>
  if q1 = 0 then
    fX10_of_J16 r
  else
    if a2 < 0 then
      fX10_of_J16 r
    else
      if a2 ≤ (4 : Int32) then
        (aI 16 (r.2.1 0) a1).bind fun v2 =>
        if v2 = 0 then
          (fX10_meet r (-10 : Int32)).bind fun q10 =>
          some (q10.1, q10.2)
        else
          (lpN (fun u => fX10_of_L40 r a1 a2 u.1 u.2) bigN ((0 : Int32), (0 : Int32))).bind fun e5 =>
          if a2 = 0 then
            (aI 16 (r.2.1 1) a1).bind fun v9 =>
            some (v9, r)
          else
            if a2 = (1 : Int32) then
              (aI 16 (r.2.1 0) a1).bind fun v8 =>
              some (v8, r)
            else
              if a2 = (2 : Int32) then
                some (e5, r)
              else
                if a2 = (3 : Int32) then
                  (fX10_opens r a1).bind fun q7 =>
                  some (q7, r)
                else
                  (fX10_worth r a1).bind fun q6 =>
                  some (q6, r)
      else
        fX10_of_J16 r
set_option maxHeartbeats 4000000 in
set_option maxRecDepth 100000 in
theorem tX10_of_L40 {κ : KK} {p : Program} {l : Launch} {e : Env} {s : State} {m : MethodId} {args : Array Value} {below : List Frame} {meth : Method} {c : Code} (C : Cx κ p s m args meth c cX10_of 5 RX10 (some .int)) {o : Nat} {v : Option Value} {B' : Heap → Prop} {r : RS} {l1 : Int32} {l2 : Int32} {l3 : Int32} {l4 : Int32} {y : (Int32 × Int32) ⊕ Int32} (h : fX10_of_L40 r l1 l2 l3 l4 = some y) (kc : ∀ u, y = .inl u → GR κ p l e s m args below meth c rmX10_of 5 o v B' r 40 [(0, .ref o), (1, .int l1), (2, .int l2), (3, .int u.1), (4, .int u.2)] []) (kx : ∀ w, y = .inr w → GR κ p l e s m args below meth c rmX10_of 5 o v B' r 75 [(0, .ref o), (1, .int l1), (2, .int l2), (3, .int w)] []) : GR κ p l e s m args below meth c rmX10_of 5 o v B' r 40 [(0, .ref o), (1, .int l1), (2, .int l2), (3, .int l3), (4, .int l4)] [] := by
  have J67 : ∀ (l4 : Int32) (s0 : Int32) (s1 : Int32), fX10_of_L40_J67 r l1 l2 l4 s0 s1 = some y → GR κ p l e s m args below meth c rmX10_of 5 o v B' r 67 [(0, .ref o), (1, .int l1), (2, .int l2), (4, .int l4)] [.int s0, .int s1] := by
    intro l4 s0 s1 h
    unfold fX10_of_L40_J67 at h
    refine G_iadd (pc' := 68) C dX10_of_67 rfl ?_
    refine G_istore_n (pc' := 69) C dX10_of_68 [(3, .int (s1 + s0)), (0, .ref o), (1, .int l1), (2, .int l2), (4, .int l4)] (by decide) rfl rfl ?_
    refine G_iinc (pc' := 72) C dX10_of_69 4 rfl rfl [(4, .int (l4 + (1 : Int32))), (3, .int (s1 + s0)), (0, .ref o), (1, .int l1), (2, .int l2)] (by decide) rfl rfl ?_
    refine G_goto (tgt := 40) C dX10_of_72 (by decide) ?_
    exact G_sub [2, 3, 4, 1, 0] rfl (kc _ (Option.some.inj h).symm)
  unfold fX10_of_L40 at h
  refine G_iload (pc' := 42) C dX10_of_40 4 rfl rfl ?_
  refine G_aload_n (pc' := 43) C dX10_of_42 0 rfl rfl ?_
  refine G_iload_n (pc' := 44) C dX10_of_43 1 rfl rfl ?_
  obtain ⟨q3, hq3, h⟩ := ob h
  refine G_cV0 (pc' := 47) C dX10_of_44 (tX10_inputs κ l o r l1 q3 hq3) (wV tw_ml_X10_119 tw_im_X10_inputs tw_se_X10_X10_inputs tw_in_X10 tw_co_X10_inputs) yd_X10_inputs rfl fi_X10 (RB_rd 0 rfl) rfl rfl (by decide) rfl (Nat.le_of_ble_eq_true rfl) rfl rfl ?_
  refine G_icmp_ge (tgt := 75) (pc' := 50) C dX10_of_47 (by decide) rfl (fun hc => ?_) (fun hc => ?_)
  · replace h := z_ip hc h
    exact G_sub [0, 1, 2, 3] rfl (kx _ (Option.some.inj h).symm)
  · replace h := z_in hc h
    refine G_iload_n (pc' := 51) C dX10_of_50 3 rfl rfl ?_
    refine G_aload_n (pc' := 52) C dX10_of_51 0 rfl rfl ?_
    refine G_iload_n (pc' := 53) C dX10_of_52 1 rfl rfl ?_
    refine G_iload (pc' := 55) C dX10_of_53 4 rfl rfl ?_
    obtain ⟨q4, hq4, h⟩ := ob h
    refine G_cV0 (pc' := 58) C dX10_of_55 (tX10_say0 κ l o r l1 l4 q4 hq4) (wV tw_ml_X10_123 tw_im_X10_say0 tw_se_X10_X10_say0 tw_in_X10 tw_co_X10_say0) yd_X10_say0 rfl fi_X10 (RB_rd 0 rfl) rfl rfl (by decide) rfl (Nat.le_of_ble_eq_true rfl) rfl rfl ?_
    refine G_iconst (pc' := 59) (v := (1 : Int32)) C dX10_of_58 (by decide) rfl ?_
    refine G_icmp_ne (tgt := 66) (pc' := 62) C dX10_of_59 (by decide) rfl (fun hc => ?_) (fun hc => ?_)
    · replace h := z_in hc h
      refine G_iconst (pc' := 67) (v := (0 : Int32)) C dX10_of_66 (by decide) rfl ?_
      exact G_sub [0, 1, 2, 4] rfl (J67 l4 (0 : Int32) l3 h)
    · replace h := z_ip hc h
      refine G_iconst (pc' := 63) (v := (1 : Int32)) C dX10_of_62 (by decide) rfl ?_
      refine G_goto (tgt := 67) C dX10_of_63 (by decide) ?_
      exact G_sub [0, 1, 2, 4] rfl (J67 l4 (1 : Int32) l3 h)
set_option maxHeartbeats 4000000 in
set_option maxRecDepth 100000 in
theorem tX10_of (κ : KK) (l : Launch) (o : Nat) (r : RS) (a1 : Int32) (a2 : Int32) (q : Int32 × RS) (h : fX10_of r a1 a2 = some q) : MM κ l yX10_of cX10_of 5 (some .int) rmX10_of (RA o) [.ref o, .int a1, .int a2] (RB κ o r) (some (Value.int q.1)) (RB κ o q.2) := by
  refine MM.of (by decide +kernel) (Nat.le_of_ble_eq_true rfl) ?_
  intro p e s m below meth c C hnm
  have J16 : ∀ (r : RS), fX10_of_J16 r = some q → GR κ p l e s m ([.ref o, .int a1, .int a2] : List Value).toArray below meth c rmX10_of 5 o (some (Value.int q.1)) (RB κ o q.2) r 16 [] [] := by
    intro r h
    unfold fX10_of_J16 at h
    refine G_bipush (pc' := 18) (v := (-2 : Int32)) C dX10_of_16 (by decide) rfl ?_
    obtain rfl := Option.some.inj h
    exact G_iret C dX10_of_18 (fun _ h => h)
  unfold fX10_of at h
  refine G_sub (lv' := [(0, .ref o), (1, .int a1), (2, .int a2)]) [0, 1, 2] rfl ?_
  refine G_iload_n (pc' := 1) C dX10_of_0 1 rfl rfl ?_
  obtain ⟨q1, hq1, h⟩ := ob h
  refine G_cS0 (pc' := 4) C dX10_of_1 (tX10_isPlace κ l (RA o) (RB κ o r) a1 q1 hq1) (wS tw_ml_X10_115 tw_st_X10_isPlace tw_co_X10_isPlace tw_in_X10) yd_X10_isPlace rfl rfl rfl (by decide) rfl (Nat.le_of_ble_eq_true rfl) rfl rfl ?_
  refine G_if_eq (tgt := 16) (pc' := 7) C dX10_of_4 (by decide) rfl (fun hc => ?_) (fun hc => ?_)
  · replace h := z_ip hc h
    exact G_sub [] rfl (J16 r h)
  · replace h := z_in hc h
    refine G_iload_n (pc' := 8) C dX10_of_7 2 rfl rfl ?_
    refine G_if_lt (tgt := 16) (pc' := 11) C dX10_of_8 (by decide) rfl (fun hc => ?_) (fun hc => ?_)
    · replace h := z_ip hc h
      exact G_sub [] rfl (J16 r h)
    · replace h := z_in hc h
      refine G_iload_n (pc' := 12) C dX10_of_11 2 rfl rfl ?_
      refine G_iconst (pc' := 13) (v := (4 : Int32)) C dX10_of_12 (by decide) rfl ?_
      refine G_icmp_le (tgt := 19) (pc' := 16) C dX10_of_13 (by decide) rfl (fun hc => ?_) (fun hc => ?_)
      · replace h := z_ip hc h
        refine G_aload_n (pc' := 20) C dX10_of_19 0 rfl rfl ?_
        refine R_g_bits (pc' := 23) C dX10_of_20 rfl ?_
        refine G_iload_n (pc' := 24) C dX10_of_23 1 rfl rfl ?_
        obtain ⟨v2, hv2, h⟩ := ob h
        refine R_l_bits (pc' := 25) C dX10_of_24 hv2 rfl ?_
        refine G_if_ne (tgt := 35) (pc' := 28) C dX10_of_25 (by decide) rfl (fun hc => ?_) (fun hc => ?_)
        · replace h := z_in hc h
          refine G_iconst (pc' := 36) (v := (0 : Int32)) C dX10_of_35 (by decide) rfl ?_
          refine G_istore_n (pc' := 37) C dX10_of_36 [(3, .int (0 : Int32)), (0, .ref o), (1, .int a1), (2, .int a2)] (by decide) rfl rfl ?_
          refine G_iconst (pc' := 38) (v := (0 : Int32)) C dX10_of_37 (by decide) rfl ?_
          refine G_istore (pc' := 40) C dX10_of_38 [(4, .int (0 : Int32)), (3, .int (0 : Int32)), (0, .ref o), (1, .int a1), (2, .int a2)] (by decide) rfl rfl ?_
          obtain ⟨e5, hle5, h⟩ := ob h
          refine G_sub (lv' := [(0, .ref o), (1, .int a1), (2, .int a2), (3, .int (0 : Int32)), (4, .int (0 : Int32))]) [2, 3, 4, 1, 0] rfl ?_
          refine lpN_ind (P := fun u => GR κ p l e s m ([.ref o, .int a1, .int a2] : List Value).toArray below meth c rmX10_of 5 o (some (Value.int q.1)) (RB κ o q.2) r 40 [(0, .ref o), (1, .int a1), (2, .int a2), (3, .int u.1), (4, .int u.2)] []) (X := fun w => GR κ p l e s m ([.ref o, .int a1, .int a2] : List Value).toArray below meth c rmX10_of 5 o (some (Value.int q.1)) (RB κ o q.2) r 75 [(0, .ref o), (1, .int a1), (2, .int a2), (3, .int w)] []) (fun u y hb kc kx => tX10_of_L40 C hb kc kx) _ _ _ hle5 ?_
          refine G_iload_n (pc' := 76) C dX10_of_75 2 rfl rfl ?_
          refine G_if_ne (tgt := 88) (pc' := 79) C dX10_of_76 (by decide) rfl (fun hc => ?_) (fun hc => ?_)
          · replace h := z_in hc h
            refine G_iload_n (pc' := 89) C dX10_of_88 2 rfl rfl ?_
            refine G_iconst (pc' := 90) (v := (1 : Int32)) C dX10_of_89 (by decide) rfl ?_
            refine G_icmp_ne (tgt := 102) (pc' := 93) C dX10_of_90 (by decide) rfl (fun hc => ?_) (fun hc => ?_)
            · replace h := z_in hc h
              refine G_iload_n (pc' := 103) C dX10_of_102 2 rfl rfl ?_
              refine G_iconst (pc' := 104) (v := (2 : Int32)) C dX10_of_103 (by decide) rfl ?_
              refine G_icmp_ne (tgt := 111) (pc' := 107) C dX10_of_104 (by decide) rfl (fun hc => ?_) (fun hc => ?_)
              · replace h := z_in hc h
                refine G_iload_n (pc' := 112) C dX10_of_111 2 rfl rfl ?_
                refine G_iconst (pc' := 113) (v := (3 : Int32)) C dX10_of_112 (by decide) rfl ?_
                refine G_icmp_ne (tgt := 124) (pc' := 116) C dX10_of_113 (by decide) rfl (fun hc => ?_) (fun hc => ?_)
                · replace h := z_in hc h
                  refine G_aload_n (pc' := 125) C dX10_of_124 0 rfl rfl ?_
                  refine G_iload_n (pc' := 126) C dX10_of_125 1 rfl rfl ?_
                  obtain ⟨q6, hq6, h⟩ := ob h
                  refine G_cV0 (pc' := 129) C dX10_of_126 (tX10_worth κ l o r a1 q6 hq6) (wV tw_ml_X10_152 tw_im_X10_worth tw_se_X10_X10_worth tw_in_X10 tw_co_X10_worth) yd_X10_worth rfl fi_X10 (RB_rd 0 rfl) rfl rfl (by decide) rfl (Nat.le_of_ble_eq_true rfl) rfl rfl ?_
                  obtain rfl := Option.some.inj h
                  exact G_iret C dX10_of_129 (fun _ h => h)
                · replace h := z_ip hc h
                  refine G_aload_n (pc' := 117) C dX10_of_116 0 rfl rfl ?_
                  refine G_iload_n (pc' := 118) C dX10_of_117 1 rfl rfl ?_
                  obtain ⟨q7, hq7, h⟩ := ob h
                  refine G_cV0 (pc' := 121) C dX10_of_118 (tX10_opens κ l o r a1 q7 hq7) (wV tw_ml_X10_130 tw_im_X10_opens tw_se_X10_X10_opens tw_in_X10 tw_co_X10_opens) yd_X10_opens rfl fi_X10 (RB_rd 0 rfl) rfl rfl (by decide) rfl (Nat.le_of_ble_eq_true rfl) rfl rfl ?_
                  refine G_goto (tgt := 129) C dX10_of_121 (by decide) ?_
                  obtain rfl := Option.some.inj h
                  exact G_iret C dX10_of_129 (fun _ h => h)
              · replace h := z_ip hc h
                refine G_iload_n (pc' := 108) C dX10_of_107 3 rfl rfl ?_
                refine G_goto (tgt := 129) C dX10_of_108 (by decide) ?_
                obtain rfl := Option.some.inj h
                exact G_iret C dX10_of_129 (fun _ h => h)
            · replace h := z_ip hc h
              refine G_aload_n (pc' := 94) C dX10_of_93 0 rfl rfl ?_
              refine R_g_bits (pc' := 97) C dX10_of_94 rfl ?_
              refine G_iload_n (pc' := 98) C dX10_of_97 1 rfl rfl ?_
              obtain ⟨v8, hv8, h⟩ := ob h
              refine R_l_bits (pc' := 99) C dX10_of_98 hv8 rfl ?_
              refine G_goto (tgt := 129) C dX10_of_99 (by decide) ?_
              obtain rfl := Option.some.inj h
              exact G_iret C dX10_of_129 (fun _ h => h)
          · replace h := z_ip hc h
            refine G_aload_n (pc' := 80) C dX10_of_79 0 rfl rfl ?_
            refine R_g_kind (pc' := 83) C dX10_of_80 rfl ?_
            refine G_iload_n (pc' := 84) C dX10_of_83 1 rfl rfl ?_
            obtain ⟨v9, hv9, h⟩ := ob h
            refine R_l_kind (pc' := 85) C dX10_of_84 hv9 rfl ?_
            refine G_goto (tgt := 129) C dX10_of_85 (by decide) ?_
            obtain rfl := Option.some.inj h
            exact G_iret C dX10_of_129 (fun _ h => h)
        · replace h := z_ip hc h
          refine G_aload_n (pc' := 29) C dX10_of_28 0 rfl rfl ?_
          refine G_bipush (pc' := 31) (v := (-10 : Int32)) C dX10_of_29 (by decide) rfl ?_
          obtain ⟨q10, hq10, h⟩ := ob h
          refine G_cV0 (pc' := 34) C dX10_of_31 (tX10_meet κ l o r (-10 : Int32) q10 hq10) (wV tw_ml_X10_136 tw_im_X10_meet tw_se_X10_X10_meet tw_in_X10 tw_co_X10_meet) yd_X10_meet rfl fi_X10 (RB_rd 0 rfl) rfl rfl (by decide) rfl (Nat.le_of_ble_eq_true rfl) rfl rfl ?_
          obtain rfl := Option.some.inj h
          exact G_iret C dX10_of_34 (fun _ h => h)
      · replace h := z_in hc h
        exact G_sub [] rfl (J16 r h)
