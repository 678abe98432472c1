theorem dX10_read_0 : decode cX10_read 0 = .ok (.aload_n 0, 1) := by decide +kernel
theorem dX10_read_1 : decode cX10_read 1 = .ok (.getfield 159, 3) := by decide +kernel
theorem dX10_read_4 : decode cX10_read 4 = .ok (.istore_n 2, 1) := by decide +kernel
theorem dX10_read_5 : decode cX10_read 5 = .ok (.aload_n 0, 1) := by decide +kernel
theorem dX10_read_6 : decode cX10_read 6 = .ok (.iconst 0, 1) := by decide +kernel
theorem dX10_read_7 : decode cX10_read 7 = .ok (.putfield 159, 3) := by decide +kernel
theorem dX10_read_10 : decode cX10_read 10 = .ok (.iconst 0, 1) := by decide +kernel
theorem dX10_read_11 : decode cX10_read 11 = .ok (.istore_n 3, 1) := by decide +kernel
theorem dX10_read_12 : decode cX10_read 12 = .ok (.iconst 0, 1) := by decide +kernel
theorem dX10_read_13 : decode cX10_read 13 = .ok (.istore 4, 2) := by decide +kernel
theorem dX10_read_15 : decode cX10_read 15 = .ok (.iconst 1, 1) := by decide +kernel
theorem dX10_read_16 : decode cX10_read 16 = .ok (.istore 5, 2) := by decide +kernel
theorem dX10_read_18 : decode cX10_read 18 = .ok (.iconst 0, 1) := by decide +kernel
theorem dX10_read_19 : decode cX10_read 19 = .ok (.istore 6, 2) := by decide +kernel
theorem dX10_read_21 : decode cX10_read 21 = .ok (.iload 6, 2) := by decide +kernel
theorem dX10_read_23 : decode cX10_read 23 = .ok (.iload_n 2, 1) := by decide +kernel
theorem dX10_read_24 : decode cX10_read 24 = .ok (.if_icmp .ge 70, 3) := by decide +kernel
theorem dX10_read_27 : decode cX10_read 27 = .ok (.aload_n 0, 1) := by decide +kernel
theorem dX10_read_28 : decode cX10_read 28 = .ok (.getfield 32, 3) := by decide +kernel
theorem dX10_read_31 : decode cX10_read 31 = .ok (.iload 6, 2) := by decide +kernel
theorem dX10_read_33 : decode cX10_read 33 = .ok (.iaload, 1) := by decide +kernel
theorem dX10_read_34 : decode cX10_read 34 = .ok (.ifCond .lt 54, 3) := by decide +kernel
theorem dX10_read_37 : decode cX10_read 37 = .ok (.aload_n 0, 1) := by decide +kernel
theorem dX10_read_38 : decode cX10_read 38 = .ok (.getfield 32, 3) := by decide +kernel
theorem dX10_read_41 : decode cX10_read 41 = .ok (.iload 6, 2) := by decide +kernel
theorem dX10_read_43 : decode cX10_read 43 = .ok (.iaload, 1) := by decide +kernel
theorem dX10_read_44 : decode cX10_read 44 = .ok (.bipush 7, 2) := by decide +kernel
theorem dX10_read_46 : decode cX10_read 46 = .ok (.if_icmp .gt 42, 3) := by decide +kernel
theorem dX10_read_49 : decode cX10_read 49 = .ok (.iload 5, 2) := by decide +kernel
theorem dX10_read_51 : decode cX10_read 51 = .ok (.iload_n 3, 1) := by decide +kernel
theorem dX10_read_52 : decode cX10_read 52 = .ok (.aload_n 0, 1) := by decide +kernel
theorem dX10_read_53 : decode cX10_read 53 = .ok (.getfield 32, 3) := by decide +kernel
theorem dX10_read_56 : decode cX10_read 56 = .ok (.iload 6, 2) := by decide +kernel
theorem dX10_read_58 : decode cX10_read 58 = .ok (.iaload, 1) := by decide +kernel
theorem dX10_read_59 : decode cX10_read 59 = .ok (.ishr, 1) := by decide +kernel
theorem dX10_read_60 : decode cX10_read 60 = .ok (.iconst 1, 1) := by decide +kernel
theorem dX10_read_61 : decode cX10_read 61 = .ok (.iand, 1) := by decide +kernel
theorem dX10_read_62 : decode cX10_read 62 = .ok (.ifCond .ne 7, 3) := by decide +kernel
theorem dX10_read_65 : decode cX10_read 65 = .ok (.iconst 1, 1) := by decide +kernel
theorem dX10_read_66 : decode cX10_read 66 = .ok (.goto 4, 3) := by decide +kernel
theorem dX10_read_69 : decode cX10_read 69 = .ok (.iconst 0, 1) := by decide +kernel
theorem dX10_read_70 : decode cX10_read 70 = .ok (.iand, 1) := by decide +kernel
theorem dX10_read_71 : decode cX10_read 71 = .ok (.istore 5, 2) := by decide +kernel
theorem dX10_read_73 : decode cX10_read 73 = .ok (.iload_n 3, 1) := by decide +kernel
theorem dX10_read_74 : decode cX10_read 74 = .ok (.iconst 1, 1) := by decide +kernel
theorem dX10_read_75 : decode cX10_read 75 = .ok (.aload_n 0, 1) := by decide +kernel
theorem dX10_read_76 : decode cX10_read 76 = .ok (.getfield 32, 3) := by decide +kernel
theorem dX10_read_79 : decode cX10_read 79 = .ok (.iload 6, 2) := by decide +kernel
theorem dX10_read_81 : decode cX10_read 81 = .ok (.iaload, 1) := by decide +kernel
theorem dX10_read_82 : decode cX10_read 82 = .ok (.ishl, 1) := by decide +kernel
theorem dX10_read_83 : decode cX10_read 83 = .ok (.ior, 1) := by decide +kernel
theorem dX10_read_84 : decode cX10_read 84 = .ok (.istore_n 3, 1) := by decide +kernel
theorem dX10_read_85 : decode cX10_read 85 = .ok (.iinc 4 1, 3) := by decide +kernel
theorem dX10_read_88 : decode cX10_read 88 = .ok (.iinc 6 1, 3) := by decide +kernel
theorem dX10_read_91 : decode cX10_read 91 = .ok (.goto (-70), 3) := by decide +kernel
theorem dX10_read_94 : decode cX10_read 94 = .ok (.iload_n 1, 1) := by decide +kernel
theorem dX10_read_95 : decode cX10_read 95 = .ok (.invokestatic 115, 3) := by decide +kernel
theorem dX10_read_98 : decode cX10_read 98 = .ok (.ifCond .eq 32, 3) := by decide +kernel
theorem dX10_read_101 : decode cX10_read 101 = .ok (.iload 5, 2) := by decide +kernel
theorem dX10_read_103 : decode cX10_read 103 = .ok (.ifCond .eq 27, 3) := by decide +kernel
theorem dX10_read_106 : decode cX10_read 106 = .ok (.iload 4, 2) := by decide +kernel
theorem dX10_read_108 : decode cX10_read 108 = .ok (.ifCond .eq 22, 3) := by decide +kernel
theorem dX10_read_111 : decode cX10_read 111 = .ok (.iload_n 3, 1) := by decide +kernel
theorem dX10_read_112 : decode cX10_read 112 = .ok (.iconst 1, 1) := by decide +kernel
theorem dX10_read_113 : decode cX10_read 113 = .ok (.iload 4, 2) := by decide +kernel
theorem dX10_read_115 : decode cX10_read 115 = .ok (.ishl, 1) := by decide +kernel
theorem dX10_read_116 : decode cX10_read 116 = .ok (.iconst 1, 1) := by decide +kernel
theorem dX10_read_117 : decode cX10_read 117 = .ok (.isub, 1) := by decide +kernel
theorem dX10_read_118 : decode cX10_read 118 = .ok (.if_icmp .ne 12, 3) := by decide +kernel
theorem dX10_read_121 : decode cX10_read 121 = .ok (.aload_n 0, 1) := by decide +kernel
theorem dX10_read_122 : decode cX10_read 122 = .ok (.iload_n 2, 1) := by decide +kernel
theorem dX10_read_123 : decode cX10_read 123 = .ok (.iconst 0, 1) := by decide +kernel
theorem dX10_read_124 : decode cX10_read 124 = .ok (.invokevirtual 166, 3) := by decide +kernel
theorem dX10_read_127 : decode cX10_read 127 = .ok (.ifCond .ge 6, 3) := by decide +kernel
theorem dX10_read_130 : decode cX10_read 130 = .ok (.bipush (-2), 2) := by decide +kernel
theorem dX10_read_132 : decode cX10_read 132 = .ok (.ireturn, 1) := by decide +kernel
theorem dX10_read_133 : decode cX10_read 133 = .ok (.iconst 0, 1) := by decide +kernel
theorem dX10_read_134 : decode cX10_read 134 = .ok (.istore 6, 2) := by decide +kernel
theorem dX10_read_136 : decode cX10_read 136 = .ok (.iload 6, 2) := by decide +kernel
theorem dX10_read_138 : decode cX10_read 138 = .ok (.iconst 1, 1) := by decide +kernel
theorem dX10_read_139 : decode cX10_read 139 = .ok (.iload 4, 2) := by decide +kernel
theorem dX10_read_141 : decode cX10_read 141 = .ok (.ishl, 1) := by decide +kernel
theorem dX10_read_142 : decode cX10_read 142 = .ok (.if_icmp .ge 23, 3) := by decide +kernel
theorem dX10_read_145 : decode cX10_read 145 = .ok (.aload_n 0, 1) := by decide +kernel
theorem dX10_read_146 : decode cX10_read 146 = .ok (.getfield 45, 3) := by decide +kernel
theorem dX10_read_149 : decode cX10_read 149 = .ok (.iload 6, 2) := by decide +kernel
theorem dX10_read_151 : decode cX10_read 151 = .ok (.aload_n 0, 1) := by decide +kernel
theorem dX10_read_152 : decode cX10_read 152 = .ok (.iload_n 2, 1) := by decide +kernel
theorem dX10_read_153 : decode cX10_read 153 = .ok (.iload 6, 2) := by decide +kernel
theorem dX10_read_155 : decode cX10_read 155 = .ok (.invokevirtual 166, 3) := by decide +kernel
theorem dX10_read_158 : decode cX10_read 158 = .ok (.iastore, 1) := by decide +kernel
theorem dX10_read_159 : decode cX10_read 159 = .ok (.iinc 6 1, 3) := by decide +kernel
theorem dX10_read_162 : decode cX10_read 162 = .ok (.goto (-26), 3) := by decide +kernel
theorem dX10_read_165 : decode cX10_read 165 = .ok (.aload_n 0, 1) := by decide +kernel
theorem dX10_read_166 : decode cX10_read 166 = .ok (.iload_n 1, 1) := by decide +kernel
theorem dX10_read_167 : decode cX10_read 167 = .ok (.iload 4, 2) := by decide +kernel
theorem dX10_read_169 : decode cX10_read 169 = .ok (.iconst 4, 1) := by decide +kernel
theorem dX10_read_170 : decode cX10_read 170 = .ok (.iconst 0, 1) := by decide +kernel
theorem dX10_read_171 : decode cX10_read 171 = .ok (.invokevirtual 162, 3) := by decide +kernel
theorem dX10_read_174 : decode cX10_read 174 = .ok (.iload 4, 2) := by decide +kernel
theorem dX10_read_176 : decode cX10_read 176 = .ok (.ireturn, 1) := by decide +kernel
abbrev rmX10_read : Room := { frames := 1, cells := 0, slots := 0, locals := 25 }
theorem yd_X10_read : yX10_read.cls = RX10 ∧ yX10_read.cls ≠ "java/lang/invoke/MethodHandle" ∧ yX10_read.cls ≠ "java/lang/invoke/VarHandle" ∧ (parseMethodDescriptor yX10_read.desc).map (fun d => d.parameters.length) = some 1 := by decide +kernel
def fX10_read_L21_J88 (r : RS) (l1 : Int32) (l2 : Int32) (l3 : Int32) (l4 : Int32) (l5 : Int32) (l6 : Int32) : Option ((Int32 × Int32 × Int32 × Int32) ⊕ (Int32 × Int32 × Int32)) :=
  some (.inl (l3, l4, l5, (l6 + (1 : Int32))))
def fX10_read_L21_J70 (r : RS) (l1 : Int32) (l2 : Int32) (l3 : Int32) (l4 : Int32) (l6 : Int32) (s0 : Int32) (s1 : Int32) : Option ((Int32 × Int32 × Int32 × Int32) ⊕ (Int32 × Int32 × Int32)) :=
  (aI 100 (r.2.1 7) l6).bind fun v4 =>
  fX10_read_L21_J88 r l1 l2 (l3 ||| ((1 : Int32) <<< (v4 &&& 31))) (l4 + (1 : Int32)) (s1 &&& s0) l6
def fX10_read_L21 (r : RS) (l1 : Int32) (l2 : Int32) (l3 : Int32) (l4 : Int32) (l5 : Int32) (l6 : Int32) : Option ((Int32 × Int32 × Int32 × Int32) ⊕ (Int32 × Int32 × Int32)) :=
  if l2 ≤ l6 then
    some (.inr (l3, l4, l5))
  else
    (aI 100 (r.2.1 7) l6).bind fun v1 =>
    if v1 < 0 then
      fX10_read_L21_J88 r l1 l2 l3 l4 l5 l6
    else
      (aI 100 (r.2.1 7) l6).bind fun v2 =>
      if (7 : Int32) < v2 then
        fX10_read_L21_J88 r l1 l2 l3 l4 l5 l6
      else
        (aI 100 (r.2.1 7) l6).bind fun v3 =>
        if ((l3 >>> (v3 &&& 31)) &&& (1 : Int32)) = 0 then
          fX10_read_L21_J70 r l1 l2 l3 l4 l6 (1 : Int32) l5
        else
          fX10_read_L21_J70 r l1 l2 l3 l4 l6 (0 : Int32) l5
def fX10_read_L136 (r : RS) (l1 : Int32) (l2 : Int32) (l4 : Int32) (l6 : Int32) : Option ((Int32 × RS) ⊕ RS) :=
  if ((1 : Int32) <<< (l4 &&& 31)) ≤ l6 then
    some (.inr r)
  else
    (fX10_formula r l2 l6).bind fun q8 =>
    (sA q8.2 9 256 l6 q8.1).bind fun r9 =>
    some (.inl ((l6 + (1 : Int32)), r9))
def fX10_read_J130 (r : RS) : Option (Int32 × RS) :=
  some ((-2 : Int32), r)
def fX10_read (r : RS) (a1 : Int32) : Option (Int32 × RS) :=
  (lpN (fun u => fX10_read_L21 (rI r 1 (0 : Int32)) a1 (r.1 1) u.1 u.2.1 u.2.2.1 u.2.2.2) bigN ((0 : Int32), (0 : Int32), (1 : Int32), (0 : Int32))).bind fun e5 =>
  (fX10_isPlace a1).bind fun q6 =>
  if q6 = 0 then
    fX10_read_J130 (rI r 1 (0 : Int32))
  else
    if e5.2.2 = 0 then
      fX10_read_J130 (rI r 1 (0 : Int32))
    else
      if e5.2.1 = 0 then
        fX10_read_J130 (rI r 1 (0 : Int32))
      else
        if e5.1 = (((1 : Int32) <<< (e5.2.1 &&& 31)) - (1 : Int32)) then
          (fX10_formula (rI r 1 (0 : Int32)) (r.1 1) (0 : Int32)).bind fun q7 =>
          if 0 ≤ q7.1 then
            (lpN (fun u => fX10_read_L136 u.2 a1 (r.1 1) e5.2.1 u.1) bigN ((0 : Int32), q7.2)).bind fun e10 =>
            (fX10_lay e10 a1 e5.2.1 (4 : Int32) (0 : Int32)).bind fun q11 =>
            some (e5.2.1, q11)
          else
            fX10_read_J130 q7.2
        else
          fX10_read_J130 (rI r 1 (0 : Int32))
set_option maxHeartbeats 4000000 in
set_option maxRecDepth 100000 in
theorem tX10_read_L21 {κ : KK} {p : Program} {l : Launch} {e : Env} {s : State} {m : MethodId} {args : Array Value} {below : List Frame} {meth : Method} {c : Code} (C : Cx κ p s m args meth c cX10_read 7 RX10 (some .int)) {o : Nat} {v : Option Value} {B' : Heap → Prop} {r : RS} {l1 : Int32} {l2 : Int32} {l3 : Int32} {l4 : Int32} {l5 : Int32} {l6 : Int32} {y : (Int32 × Int32 × Int32 × Int32) ⊕ (Int32 × Int32 × Int32)} (h : fX10_read_L21 r l1 l2 l3 l4 l5 l6 = some y) (kc : ∀ u, y = .inl u → GR κ p l e s m args below meth c rmX10_read 7 o v B' r 21 [(0, .ref o), (1, .int l1), (2, .int l2), (3, .int u.1), (4, .int u.2.1), (5, .int u.2.2.1), (6, .int u.2.2.2)] []) (kx : ∀ w, y = .inr w → GR κ p l e s m args below meth c rmX10_read 7 o v B' r 94 [(0, .ref o), (1, .int l1), (2, .int l2), (3, .int w.1), (4, .int w.2.1), (5, .int w.2.2)] []) : GR κ p l e s m args below meth c rmX10_read 7 o v B' r 21 [(0, .ref o), (1, .int l1), (2, .int l2), (3, .int l3), (4, .int l4), (5, .int l5), (6, .int l6)] [] := by
  have J88 : ∀ (l3 : Int32) (l4 : Int32) (l5 : Int32) (l6 : Int32), fX10_read_L21_J88 r l1 l2 l3 l4 l5 l6 = some y → GR κ p l e s m args below meth c rmX10_read 7 o v B' r 88 [(0, .ref o), (1, .int l1), (2, .int l2), (3, .int l3), (4, .int l4), (5, .int l5), (6, .int l6)] [] := by
    intro l3 l4 l5 l6 h
    unfold fX10_read_L21_J88 at h
    refine G_iinc (pc' := 91) C dX10_read_88 6 rfl rfl [(6, .int (l6 + (1 : Int32))), (0, .ref o), (1, .int l1), (2, .int l2), (3, .int l3), (4, .int l4), (5, .int l5)] (by decide) rfl rfl ?_
    refine G_goto (tgt := 21) C dX10_read_91 (by decide) ?_
    exact G_sub [1, 2, 3, 4, 5, 6, 0] rfl (kc _ (Option.some.inj h).symm)
  have J70 : ∀ (l3 : Int32) (l4 : Int32) (l6 : Int32) (s0 : Int32) (s1 : Int32), fX10_read_L21_J70 r l1 l2 l3 l4 l6 s0 s1 = some y → GR κ p l e s m args below meth c rmX10_read 7 o v B' r 70 [(0, .ref o), (1, .int l1), (2, .int l2), (3, .int l3), (4, .int l4), (6, .int l6)] [.int s0, .int s1] := by
    intro l3 l4 l6 s0 s1 h
    unfold fX10_read_L21_J70 at h
    refine G_iand (pc' := 71) C dX10_read_70 rfl ?_
    refine G_istore (pc' := 73) C dX10_read_71 [(5, .int (s1 &&& s0)), (0, .ref o), (1, .int l1), (2, .int l2), (3, .int l3), (4, .int l4), (6, .int l6)] (by decide) rfl rfl ?_
    refine G_iload_n (pc' := 74) C dX10_read_73 4 rfl rfl ?_
    refine G_iconst (pc' := 75) (v := (1 : Int32)) C dX10_read_74 (by decide) rfl ?_
    refine G_aload_n (pc' := 76) C dX10_read_75 1 rfl rfl ?_
    refine R_g_waiting (pc' := 79) C dX10_read_76 rfl ?_
    refine G_iload (pc' := 81) C dX10_read_79 6 rfl rfl ?_
    obtain ⟨v4, hv4, h⟩ := ob h
    refine R_l_waiting (pc' := 82) C dX10_read_81 hv4 rfl ?_
    refine G_ishl (pc' := 83) C dX10_read_82 rfl ?_
    refine G_ior (pc' := 84) C dX10_read_83 rfl ?_
    refine G_istore_n (pc' := 85) C dX10_read_84 [(3, .int (l3 ||| ((1 : Int32) <<< (v4 &&& 31)))), (5, .int (s1 &&& s0)), (0, .ref o), (1, .int l1), (2, .int l2), (4, .int l4), (6, .int l6)] (by decide) rfl rfl ?_
    refine G_iinc (pc' := 88) C dX10_read_85 5 rfl rfl [(4, .int (l4 + (1 : Int32))), (3, .int (l3 ||| ((1 : Int32) <<< (v4 &&& 31)))), (5, .int (s1 &&& s0)), (0, .ref o), (1, .int l1), (2, .int l2), (6, .int l6)] (by decide) rfl rfl ?_
    exact G_sub [3, 4, 5, 1, 0, 2, 6] rfl (J88 (l3 ||| ((1 : Int32) <<< (v4 &&& 31))) (l4 + (1 : Int32)) (s1 &&& s0) l6 h)
  unfold fX10_read_L21 at h
  refine G_iload (pc' := 23) C dX10_read_21 6 rfl rfl ?_
  refine G_iload_n (pc' := 24) C dX10_read_23 2 rfl rfl ?_
  refine G_icmp_ge (tgt := 94) (pc' := 27) C dX10_read_24 (by decide) rfl (fun hc => ?_) (fun hc => ?_)
  · replace h := z_ip hc h
    exact G_sub [0, 1, 2, 3, 4, 5] rfl (kx _ (Option.some.inj h).symm)
  · replace h := z_in hc h
    refine G_aload_n (pc' := 28) C dX10_read_27 0 rfl rfl ?_
    refine R_g_waiting (pc' := 31) C dX10_read_28 rfl ?_
    refine G_iload (pc' := 33) C dX10_read_31 6 rfl rfl ?_
    obtain ⟨v1, hv1, h⟩ := ob h
    refine R_l_waiting (pc' := 34) C dX10_read_33 hv1 rfl ?_
    refine G_if_lt (tgt := 88) (pc' := 37) C dX10_read_34 (by decide) rfl (fun hc => ?_) (fun hc => ?_)
    · replace h := z_ip hc h
      exact G_sub [0, 1, 2, 3, 4, 5, 6] rfl (J88 l3 l4 l5 l6 h)
    · replace h := z_in hc h
      refine G_aload_n (pc' := 38) C dX10_read_37 0 rfl rfl ?_
      refine R_g_waiting (pc' := 41) C dX10_read_38 rfl ?_
      refine G_iload (pc' := 43) C dX10_read_41 6 rfl rfl ?_
      obtain ⟨v2, hv2, h⟩ := ob h
      refine R_l_waiting (pc' := 44) C dX10_read_43 hv2 rfl ?_
      refine G_bipush (pc' := 46) (v := (7 : Int32)) C dX10_read_44 (by decide) rfl ?_
      refine G_icmp_gt (tgt := 88) (pc' := 49) C dX10_read_46 (by decide) rfl (fun hc => ?_) (fun hc => ?_)
      · replace h := z_ip hc h
        exact G_sub [0, 1, 2, 3, 4, 5, 6] rfl (J88 l3 l4 l5 l6 h)
      · replace h := z_in hc h
        refine G_iload (pc' := 51) C dX10_read_49 5 rfl rfl ?_
        refine G_iload_n (pc' := 52) C dX10_read_51 3 rfl rfl ?_
        refine G_aload_n (pc' := 53) C dX10_read_52 0 rfl rfl ?_
        refine R_g_waiting (pc' := 56) C dX10_read_53 rfl ?_
        refine G_iload (pc' := 58) C dX10_read_56 6 rfl rfl ?_
        obtain ⟨v3, hv3, h⟩ := ob h
        refine R_l_waiting (pc' := 59) C dX10_read_58 hv3 rfl ?_
        refine G_ishr (pc' := 60) C dX10_read_59 rfl ?_
        refine G_iconst (pc' := 61) (v := (1 : Int32)) C dX10_read_60 (by decide) rfl ?_
        refine G_iand (pc' := 62) C dX10_read_61 rfl ?_
        refine G_if_ne (tgt := 69) (pc' := 65) C dX10_read_62 (by decide) rfl (fun hc => ?_) (fun hc => ?_)
        · replace h := z_in hc h
          refine G_iconst (pc' := 70) (v := (0 : Int32)) C dX10_read_69 (by decide) rfl ?_
          exact G_sub [0, 1, 2, 3, 4, 6] rfl (J70 l3 l4 l6 (0 : Int32) l5 h)
        · replace h := z_ip hc h
          refine G_iconst (pc' := 66) (v := (1 : Int32)) C dX10_read_65 (by decide) rfl ?_
          refine G_goto (tgt := 70) C dX10_read_66 (by decide) ?_
          exact G_sub [0, 1, 2, 3, 4, 6] rfl (J70 l3 l4 l6 (1 : Int32) l5 h)
set_option maxHeartbeats 4000000 in
set_option maxRecDepth 100000 in
theorem tX10_read_L136 {κ : KK} {p : Program} {l : Launch} {e : Env} {s : State} {m : MethodId} {args : Array Value} {below : List Frame} {meth : Method} {c : Code} (C : Cx κ p s m args meth c cX10_read 7 RX10 (some .int)) {o : Nat} {v : Option Value} {B' : Heap → Prop} {r : RS} {l1 : Int32} {l2 : Int32} {l4 : Int32} {l6 : Int32} {y : (Int32 × RS) ⊕ RS} (h : fX10_read_L136 r l1 l2 l4 l6 = some y) (kc : ∀ u, y = .inl u → GR κ p l e s m args below meth c rmX10_read 7 o v B' u.2 136 [(0, .ref o), (1, .int l1), (2, .int l2), (4, .int l4), (6, .int u.1)] []) (kx : ∀ w, y = .inr w → GR κ p l e s m args below meth c rmX10_read 7 o v B' w 165 [(0, .ref o), (1, .int l1), (4, .int l4)] []) : GR κ p l e s m args below meth c rmX10_read 7 o v B' r 136 [(0, .ref o), (1, .int l1), (2, .int l2), (4, .int l4), (6, .int l6)] [] := by
  unfold fX10_read_L136 at h
  refine G_iload (pc' := 138) C dX10_read_136 4 rfl rfl ?_
  refine G_iconst (pc' := 139) (v := (1 : Int32)) C dX10_read_138 (by decide) rfl ?_
  refine G_iload (pc' := 141) C dX10_read_139 3 rfl rfl ?_
  refine G_ishl (pc' := 142) C dX10_read_141 rfl ?_
  refine G_icmp_ge (tgt := 165) (pc' := 145) C dX10_read_142 (by decide) rfl (fun hc => ?_) (fun hc => ?_)
  · replace h := z_ip hc h
    exact G_sub [0, 1, 3] rfl (kx _ (Option.some.inj h).symm)
  · replace h := z_in hc h
    refine G_aload_n (pc' := 146) C dX10_read_145 0 rfl rfl ?_
    refine R_g_made (pc' := 149) C dX10_read_146 rfl ?_
    refine G_iload (pc' := 151) C dX10_read_149 4 rfl rfl ?_
    refine G_aload_n (pc' := 152) C dX10_read_151 0 rfl rfl ?_
    refine G_iload_n (pc' := 153) C dX10_read_152 2 rfl rfl ?_
    refine G_iload (pc' := 155) C dX10_read_153 4 rfl rfl ?_
    obtain ⟨q8, hq8, h⟩ := ob h
    refine G_cV0 (pc' := 158) C dX10_read_155 (tX10_formula κ l o r l2 l6 q8 hq8) (wV tw_ml_X10_166 tw_im_X10_formula tw_se_X10_X10_formula tw_in_X10 tw_co_X10_formula) yd_X10_formula rfl fi_X10 (RB_rd 0 rfl) rfl rfl (by decide) rfl (Nat.le_of_ble_eq_true rfl) rfl rfl ?_
    obtain ⟨r9, hr9, h⟩ := ob h
    refine R_s_made (pc' := 159) C dX10_read_158 hr9 rfl ?_
    refine G_iinc (pc' := 162) C dX10_read_159 4 rfl rfl [(6, .int (l6 + (1 : Int32))), (0, .ref o), (1, .int l1), (2, .int l2), (4, .int l4)] (by decide) rfl rfl ?_
    refine G_goto (tgt := 136) C dX10_read_162 (by decide) ?_
    exact G_sub [1, 2, 3, 4, 0] rfl (kc _ (Option.some.inj h).symm)
set_option maxHeartbeats 4000000 in
set_option maxRecDepth 100000 in
theorem tX10_read (κ : KK) (l : Launch) (o : Nat) (r : RS) (a1 : Int32) (q : Int32 × RS) (h : fX10_read r a1 = some q) : MM κ l yX10_read cX10_read 7 (some .int) rmX10_read (RA o) [.ref o, .int a1] (RB κ o r) (some (Value.int q.1)) (RB κ o q.2) := by
  refine MM.of (by decide +kernel) (Nat.le_of_ble_eq_true rfl) ?_
  intro p e s m below meth c C hnm
  have J130 : ∀ (r : RS), fX10_read_J130 r = some q → GR κ p l e s m ([.ref o, .int a1] : List Value).toArray below meth c rmX10_read 7 o (some (Value.int q.1)) (RB κ o q.2) r 130 [] [] := by
    intro r h
    unfold fX10_read_J130 at h
    refine G_bipush (pc' := 132) (v := (-2 : Int32)) C dX10_read_130 (by decide) rfl ?_
    obtain rfl := Option.some.inj h
    exact G_iret C dX10_read_132 (fun _ h => h)
  unfold fX10_read at h
  refine G_sub (lv' := [(0, .ref o), (1, .int a1)]) [0, 1] rfl ?_
  refine G_aload_n (pc' := 1) C dX10_read_0 0 rfl rfl ?_
  refine R_g_waits (pc' := 4) C dX10_read_1 rfl ?_
  refine G_istore_n (pc' := 5) C dX10_read_4 [(2, .int (r.1 1)), (0, .ref o), (1, .int a1)] (by decide) rfl rfl ?_
  refine G_aload_n (pc' := 6) C dX10_read_5 1 rfl rfl ?_
  refine G_iconst (pc' := 7) (v := (0 : Int32)) C dX10_read_6 (by decide) rfl ?_
  refine R_p_waits (pc' := 10) C dX10_read_7 rfl ?_
  refine G_iconst (pc' := 11) (v := (0 : Int32)) C dX10_read_10 (by decide) rfl ?_
  refine G_istore_n (pc' := 12) C dX10_read_11 [(3, .int (0 : Int32)), (2, .int (r.1 1)), (0, .ref o), (1, .int a1)] (by decide) rfl rfl ?_
  refine G_iconst (pc' := 13) (v := (0 : Int32)) C dX10_read_12 (by decide) rfl ?_
  refine G_istore (pc' := 15) C dX10_read_13 [(4, .int (0 : Int32)), (3, .int (0 : Int32)), (2, .int (r.1 1)), (0, .ref o), (1, .int a1)] (by decide) rfl rfl ?_
  refine G_iconst (pc' := 16) (v := (1 : Int32)) C dX10_read_15 (by decide) rfl ?_
  refine G_istore (pc' := 18) C dX10_read_16 [(5, .int (1 : Int32)), (4, .int (0 : Int32)), (3, .int (0 : Int32)), (2, .int (r.1 1)), (0, .ref o), (1, .int a1)] (by decide) rfl rfl ?_
  refine G_iconst (pc' := 19) (v := (0 : Int32)) C dX10_read_18 (by decide) rfl ?_
  refine G_istore (pc' := 21) C dX10_read_19 [(6, .int (0 : Int32)), (5, .int (1 : Int32)), (4, .int (0 : Int32)), (3, .int (0 : Int32)), (2, .int (r.1 1)), (0, .ref o), (1, .int a1)] (by decide) rfl rfl ?_
  obtain ⟨e5, hle5, h⟩ := ob h
  refine G_sub (lv' := [(0, .ref o), (1, .int a1), (2, .int (r.1 1)), (3, .int (0 : Int32)), (4, .int (0 : Int32)), (5, .int (1 : Int32)), (6, .int (0 : Int32))]) [5, 6, 4, 3, 2, 1, 0] rfl ?_
  refine lpN_ind (P := fun u => GR κ p l e s m ([.ref o, .int a1] : List Value).toArray below meth c rmX10_read 7 o (some (Value.int q.1)) (RB κ o q.2) (rI r 1 (0 : Int32)) 21 [(0, .ref o), (1, .int a1), (2, .int (r.1 1)), (3, .int u.1), (4, .int u.2.1), (5, .int u.2.2.1), (6, .int u.2.2.2)] []) (X := fun w => GR κ p l e s m ([.ref o, .int a1] : List Value).toArray below meth c rmX10_read 7 o (some (Value.int q.1)) (RB κ o q.2) (rI r 1 (0 : Int32)) 94 [(0, .ref o), (1, .int a1), (2, .int (r.1 1)), (3, .int w.1), (4, .int w.2.1), (5, .int w.2.2)] []) (fun u y hb kc kx => tX10_read_L21 C hb kc kx) _ _ _ hle5 ?_
  refine G_iload_n (pc' := 95) C dX10_read_94 1 rfl rfl ?_
  obtain ⟨q6, hq6, h⟩ := ob h
  refine G_cS0 (pc' := 98) C dX10_read_95 (tX10_isPlace κ l (RA o) (RB κ o (rI r 1 (0 : Int32))) a1 q6 hq6) (wS tw_ml_X10_115 tw_st_X10_isPlace tw_co_X10_isPlace tw_in_X10) yd_X10_isPlace rfl rfl rfl (by decide) rfl (Nat.le_of_ble_eq_true rfl) rfl rfl ?_
  refine G_if_eq (tgt := 130) (pc' := 101) C dX10_read_98 (by decide) rfl (fun hc => ?_) (fun hc => ?_)
  · replace h := z_ip hc h
    exact G_sub [] rfl (J130 (rI r 1 (0 : Int32)) h)
  · replace h := z_in hc h
    refine G_iload (pc' := 103) C dX10_read_101 5 rfl rfl ?_
    refine G_if_eq (tgt := 130) (pc' := 106) C dX10_read_103 (by decide) rfl (fun hc => ?_) (fun hc => ?_)
    · replace h := z_ip hc h
      exact G_sub [] rfl (J130 (rI r 1 (0 : Int32)) h)
    · replace h := z_in hc h
      refine G_iload (pc' := 108) C dX10_read_106 4 rfl rfl ?_
      refine G_if_eq (tgt := 130) (pc' := 111) C dX10_read_108 (by decide) rfl (fun hc => ?_) (fun hc => ?_)
      · replace h := z_ip hc h
        exact G_sub [] rfl (J130 (rI r 1 (0 : Int32)) h)
      · replace h := z_in hc h
        refine G_iload_n (pc' := 112) C dX10_read_111 3 rfl rfl ?_
        refine G_iconst (pc' := 113) (v := (1 : Int32)) C dX10_read_112 (by decide) rfl ?_
        refine G_iload (pc' := 115) C dX10_read_113 4 rfl rfl ?_
        refine G_ishl (pc' := 116) C dX10_read_115 rfl ?_
        refine G_iconst (pc' := 117) (v := (1 : Int32)) C dX10_read_116 (by decide) rfl ?_
        refine G_isub (pc' := 118) C dX10_read_117 rfl ?_
        refine G_icmp_ne (tgt := 130) (pc' := 121) C dX10_read_118 (by decide) rfl (fun hc => ?_) (fun hc => ?_)
        · replace h := z_in hc h
          exact G_sub [] rfl (J130 (rI r 1 (0 : Int32)) h)
        · replace h := z_ip hc h
          refine G_aload_n (pc' := 122) C dX10_read_121 0 rfl rfl ?_
          refine G_iload_n (pc' := 123) C dX10_read_122 2 rfl rfl ?_
          refine G_iconst (pc' := 124) (v := (0 : Int32)) C dX10_read_123 (by decide) rfl ?_
          obtain ⟨q7, hq7, h⟩ := ob h
          refine G_cV0 (pc' := 127) C dX10_read_124 (tX10_formula κ l o (rI r 1 (0 : Int32)) (r.1 1) (0 : Int32) q7 hq7) (wV tw_ml_X10_166 tw_im_X10_formula tw_se_X10_X10_formula tw_in_X10 tw_co_X10_formula) yd_X10_formula rfl fi_X10 (RB_rd 0 rfl) rfl rfl (by decide) rfl (Nat.le_of_ble_eq_true rfl) rfl rfl ?_
          refine G_if_ge (tgt := 133) (pc' := 130) C dX10_read_127 (by decide) rfl (fun hc => ?_) (fun hc => ?_)
          · replace h := z_ip hc h
            refine G_iconst (pc' := 134) (v := (0 : Int32)) C dX10_read_133 (by decide) rfl ?_
            refine G_istore (pc' := 136) C dX10_read_134 [(6, .int (0 : Int32)), (0, .ref o), (1, .int a1), (2, .int (r.1 1)), (3, .int e5.1), (4, .int e5.2.1), (5, .int e5.2.2)] (by decide) rfl rfl ?_
            obtain ⟨e10, hle10, h⟩ := ob h
            refine G_sub (lv' := [(0, .ref o), (1, .int a1), (2, .int (r.1 1)), (4, .int e5.2.1), (6, .int (0 : Int32))]) [1, 2, 3, 5, 0] rfl ?_
            refine lpN_ind (P := fun u => GR κ p l e s m ([.ref o, .int a1] : List Value).toArray below meth c rmX10_read 7 o (some (Value.int q.1)) (RB κ o q.2) u.2 136 [(0, .ref o), (1, .int a1), (2, .int (r.1 1)), (4, .int e5.2.1), (6, .int u.1)] []) (X := fun w => GR κ p l e s m ([.ref o, .int a1] : List Value).toArray below meth c rmX10_read 7 o (some (Value.int q.1)) (RB κ o q.2) w 165 [(0, .ref o), (1, .int a1), (4, .int e5.2.1)] []) (fun u y hb kc kx => tX10_read_L136 C hb kc kx) _ _ _ hle10 ?_
            refine G_aload_n (pc' := 166) C dX10_read_165 0 rfl rfl ?_
            refine G_iload_n (pc' := 167) C dX10_read_166 1 rfl rfl ?_
            refine G_iload (pc' := 169) C dX10_read_167 2 rfl rfl ?_
            refine G_iconst (pc' := 170) (v := (4 : Int32)) C dX10_read_169 (by decide) rfl ?_
            refine G_iconst (pc' := 171) (v := (0 : Int32)) C dX10_read_170 (by decide) rfl ?_
            obtain ⟨q11, hq11, h⟩ := ob h
            refine G_cV0 (pc' := 174) C dX10_read_171 (tX10_lay κ l o e10 a1 e5.2.1 (4 : Int32) (0 : Int32) q11 hq11) (wV tw_ml_X10_162 tw_im_X10_lay tw_se_X10_X10_lay tw_in_X10 tw_co_X10_lay) yd_X10_lay rfl fi_X10 (RB_rd 0 rfl) rfl rfl (by decide) rfl (Nat.le_of_ble_eq_true rfl) rfl rfl ?_
            refine G_iload (pc' := 176) C dX10_read_174 2 rfl rfl ?_
            obtain rfl := Option.some.inj h
            exact G_iret C dX10_read_176 (fun _ h => h)
          · replace h := z_in hc h
            exact G_sub [] rfl (J130 q7.2 h)
theorem dX10_with_0 : decode cX10_with 0 = .ok (.iload_n 0, 1) := by decide +kernel
theorem dX10_with_1 : decode cX10_with 1 = .ok (.iconst 1, 1) := by decide +kernel
theorem dX10_with_2 : decode cX10_with 2 = .ok (.iload_n 1, 1) := by decide +kernel
theorem dX10_with_3 : decode cX10_with 3 = .ok (.ishl, 1) := by decide +kernel
theorem dX10_with_4 : decode cX10_with 4 = .ok (.iconst 1, 1) := by decide +kernel
theorem dX10_with_5 : decode cX10_with 5 = .ok (.isub, 1) := by decide +kernel
theorem dX10_with_6 : decode cX10_with 6 = .ok (.iand, 1) := by decide +kernel
theorem dX10_with_7 : decode cX10_with 7 = .ok (.istore_n 3, 1) := by decide +kernel
theorem dX10_with_8 : decode cX10_with 8 = .ok (.iload_n 3, 1) := by decide +kernel
theorem dX10_with_9 : decode cX10_with 9 = .ok (.iload_n 2, 1) := by decide +kernel
theorem dX10_with_10 : decode cX10_with 10 = .ok (.iload_n 1, 1) := by decide +kernel
theorem dX10_with_11 : decode cX10_with 11 = .ok (.ishl, 1) := by decide +kernel
theorem dX10_with_12 : decode cX10_with 12 = .ok (.ior, 1) := by decide +kernel
theorem dX10_with_13 : decode cX10_with 13 = .ok (.iload_n 0, 1) := by decide +kernel
theorem dX10_with_14 : decode cX10_with 14 = .ok (.iload_n 1, 1) := by decide +kernel
theorem dX10_with_15 : decode cX10_with 15 = .ok (.ishr, 1) := by decide +kernel
theorem dX10_with_16 : decode cX10_with 16 = .ok (.iload_n 1, 1) := by decide +kernel
theorem dX10_with_17 : decode cX10_with 17 = .ok (.iconst 1, 1) := by decide +kernel
theorem dX10_with_18 : decode cX10_with 18 = .ok (.iadd, 1) := by decide +kernel
theorem dX10_with_19 : decode cX10_with 19 = .ok (.ishl, 1) := by decide +kernel
theorem dX10_with_20 : decode cX10_with 20 = .ok (.ior, 1) := by decide +kernel
theorem dX10_with_21 : decode cX10_with 21 = .ok (.ireturn, 1) := by decide +kernel
abbrev rmX10_with : Room := { frames := 0, cells := 0, slots := 0, locals := 0 }
theorem yd_X10_with : yX10_with.cls ≠ "java/lang/invoke/MethodHandle" ∧ yX10_with.cls ≠ "java/lang/invoke/VarHandle" ∧ (parseMethodDescriptor yX10_with.desc).map (fun d => d.parameters.length) = some 3 := by decide +kernel
def fX10_with (a1 : Int32) (a2 : Int32) (a3 : Int32) : Option (Int32) :=
  some (((a1 &&& (((1 : Int32) <<< (a2 &&& 31)) - (1 : Int32))) ||| (a3 <<< (a2 &&& 31))) ||| ((a1 >>> (a2 &&& 31)) <<< ((a2 + (1 : Int32)) &&& 31)))
set_option maxHeartbeats 4000000 in
set_option maxRecDepth 100000 in
theorem tX10_with (κ : KK) (l : Launch) (A : Nat → Prop) (B : Heap → Prop) (a1 : Int32) (a2 : Int32) (a3 : Int32) (q : Int32) (h : fX10_with a1 a2 a3 = some q) : MM κ l yX10_with cX10_with 4 (some .int) rmX10_with A [.int a1, .int a2, .int a3] B (some (Value.int q)) B := by
  refine MM.of (by decide +kernel) (Nat.le_of_ble_eq_true rfl) ?_
  intro p e s m below meth c C hnm
  unfold fX10_with at h
  refine G_sub (lv' := [(0, .int a1), (1, .int a2), (2, .int a3)]) [0, 1, 2] rfl ?_
  refine G_iload_n (pc' := 1) C dX10_with_0 0 rfl rfl ?_
  refine G_iconst (pc' := 2) (v := (1 : Int32)) C dX10_with_1 (by decide) rfl ?_
  refine G_iload_n (pc' := 3) C dX10_with_2 1 rfl rfl ?_
  refine G_ishl (pc' := 4) C dX10_with_3 rfl ?_
  refine G_iconst (pc' := 5) (v := (1 : Int32)) C dX10_with_4 (by decide) rfl ?_
  refine G_isub (pc' := 6) C dX10_with_5 rfl ?_
  refine G_iand (pc' := 7) C dX10_with_6 rfl ?_
  refine G_istore_n (pc' := 8) C dX10_with_7 [(3, .int (a1 &&& (((1 : Int32) <<< (a2 &&& 31)) - (1 : Int32)))), (0, .int a1), (1, .int a2), (2, .int a3)] (by decide) rfl rfl ?_
  refine G_iload_n (pc' := 9) C dX10_with_8 0 rfl rfl ?_
  refine G_iload_n (pc' := 10) C dX10_with_9 3 rfl rfl ?_
  refine G_iload_n (pc' := 11) C dX10_with_10 2 rfl rfl ?_
  refine G_ishl (pc' := 12) C dX10_with_11 rfl ?_
  refine G_ior (pc' := 13) C dX10_with_12 rfl ?_
  refine G_iload_n (pc' := 14) C dX10_with_13 1 rfl rfl ?_
  refine G_iload_n (pc' := 15) C dX10_with_14 2 rfl rfl ?_
  refine G_ishr (pc' := 16) C dX10_with_15 rfl ?_
  refine G_iload_n (pc' := 17) C dX10_with_16 2 rfl rfl ?_
  refine G_iconst (pc' := 18) (v := (1 : Int32)) C dX10_with_17 (by decide) rfl ?_
  refine G_iadd (pc' := 19) C dX10_with_18 rfl ?_
  refine G_ishl (pc' := 20) C dX10_with_19 rfl ?_
  refine G_ior (pc' := 21) C dX10_with_20 rfl ?_
  obtain rfl := Option.some.inj h
  exact G_iret C dX10_with_21 (fun _ h => h)
theorem dX10_made_0 : decode cX10_made 0 = .ok (.iload_n 1, 1) := by decide +kernel
theorem dX10_made_1 : decode cX10_made 1 = .ok (.invokestatic 115, 3) := by decide +kernel
theorem dX10_made_4 : decode cX10_made 4 = .ok (.ifCond .eq 19, 3) := by decide +kernel
theorem dX10_made_7 : decode cX10_made 7 = .ok (.iload_n 2, 1) := by decide +kernel
theorem dX10_made_8 : decode cX10_made 8 = .ok (.invokestatic 115, 3) := by decide +kernel
theorem dX10_made_11 : decode cX10_made 11 = .ok (.ifCond .eq 12, 3) := by decide +kernel
theorem dX10_made_14 : decode cX10_made 14 = .ok (.iload_n 3, 1) := by decide +kernel
theorem dX10_made_15 : decode cX10_made 15 = .ok (.ifCond .lt 8, 3) := by decide +kernel
theorem dX10_made_18 : decode cX10_made 18 = .ok (.iload_n 3, 1) := by decide +kernel
theorem dX10_made_19 : decode cX10_made 19 = .ok (.iconst 4, 1) := by decide +kernel
theorem dX10_made_20 : decode cX10_made 20 = .ok (.if_icmp .le 6, 3) := by decide +kernel
theorem dX10_made_23 : decode cX10_made 23 = .ok (.bipush (-2), 2) := by decide +kernel
theorem dX10_made_25 : decode cX10_made 25 = .ok (.ireturn, 1) := by decide +kernel
theorem dX10_made_26 : decode cX10_made 26 = .ok (.aload_n 0, 1) := by decide +kernel
theorem dX10_made_27 : decode cX10_made 27 = .ok (.getfield 7, 3) := by decide +kernel
theorem dX10_made_30 : decode cX10_made 30 = .ok (.iload_n 1, 1) := by decide +kernel
theorem dX10_made_31 : decode cX10_made 31 = .ok (.iaload, 1) := by decide +kernel
theorem dX10_made_32 : decode cX10_made 32 = .ok (.ifCond .ne 10, 3) := by decide +kernel
theorem dX10_made_35 : decode cX10_made 35 = .ok (.aload_n 0, 1) := by decide +kernel
theorem dX10_made_36 : decode cX10_made 36 = .ok (.bipush (-10), 2) := by decide +kernel
theorem dX10_made_38 : decode cX10_made 38 = .ok (.invokevirtual 136, 3) := by decide +kernel
theorem dX10_made_41 : decode cX10_made 41 = .ok (.ireturn, 1) := by decide +kernel
theorem dX10_made_42 : decode cX10_made 42 = .ok (.iload_n 3, 1) := by decide +kernel
theorem dX10_made_43 : decode cX10_made 43 = .ok (.iconst 2, 1) := by decide +kernel
theorem dX10_made_44 : decode cX10_made 44 = .ok (.if_icmp .lt 22, 3) := by decide +kernel
theorem dX10_made_47 : decode cX10_made 47 = .ok (.iload 4, 2) := by decide +kernel
theorem dX10_made_49 : decode cX10_made 49 = .ok (.ifCond .lt 14, 3) := by decide +kernel
theorem dX10_made_52 : decode cX10_made 52 = .ok (.iload 4, 2) := by decide +kernel
theorem dX10_made_54 : decode cX10_made 54 = .ok (.aload_n 0, 1) := by decide +kernel
theorem dX10_made_55 : decode cX10_made 55 = .ok (.getfield 7, 3) := by decide +kernel
theorem dX10_made_58 : decode cX10_made 58 = .ok (.iload_n 1, 1) := by decide +kernel
theorem dX10_made_59 : decode cX10_made 59 = .ok (.iaload, 1) := by decide +kernel
theorem dX10_made_60 : decode cX10_made 60 = .ok (.if_icmp .lt 6, 3) := by decide +kernel
theorem dX10_made_63 : decode cX10_made 63 = .ok (.bipush (-2), 2) := by decide +kernel
theorem dX10_made_65 : decode cX10_made 65 = .ok (.ireturn, 1) := by decide +kernel
theorem dX10_made_66 : decode cX10_made 66 = .ok (.iload_n 3, 1) := by decide +kernel
theorem dX10_made_67 : decode cX10_made 67 = .ok (.iconst 2, 1) := by decide +kernel
theorem dX10_made_68 : decode cX10_made 68 = .ok (.if_icmp .eq 8, 3) := by decide +kernel
theorem dX10_made_71 : decode cX10_made 71 = .ok (.iload_n 3, 1) := by decide +kernel
theorem dX10_made_72 : decode cX10_made 72 = .ok (.iconst 3, 1) := by decide +kernel
theorem dX10_made_73 : decode cX10_made 73 = .ok (.if_icmp .ne 7, 3) := by decide +kernel
theorem dX10_made_76 : decode cX10_made 76 = .ok (.iconst 1, 1) := by decide +kernel
theorem dX10_made_77 : decode cX10_made 77 = .ok (.goto 4, 3) := by decide +kernel
theorem dX10_made_80 : decode cX10_made 80 = .ok (.iconst 0, 1) := by decide +kernel
theorem dX10_made_81 : decode cX10_made 81 = .ok (.istore 5, 2) := by decide +kernel
theorem dX10_made_83 : decode cX10_made 83 = .ok (.iload 5, 2) := by decide +kernel
theorem dX10_made_85 : decode cX10_made 85 = .ok (.ifCond .eq 16, 3) := by decide +kernel
theorem dX10_made_88 : decode cX10_made 88 = .ok (.aload_n 0, 1) := by decide +kernel
theorem dX10_made_89 : decode cX10_made 89 = .ok (.getfield 7, 3) := by decide +kernel
theorem dX10_made_92 : decode cX10_made 92 = .ok (.iload_n 1, 1) := by decide +kernel
theorem dX10_made_93 : decode cX10_made 93 = .ok (.iaload, 1) := by decide +kernel
theorem dX10_made_94 : decode cX10_made 94 = .ok (.iconst 1, 1) := by decide +kernel
theorem dX10_made_95 : decode cX10_made 95 = .ok (.if_icmp .ne 6, 3) := by decide +kernel
theorem dX10_made_98 : decode cX10_made 98 = .ok (.bipush (-5), 2) := by decide +kernel
theorem dX10_made_100 : decode cX10_made 100 = .ok (.ireturn, 1) := by decide +kernel
theorem dX10_made_101 : decode cX10_made 101 = .ok (.iload 5, 2) := by decide +kernel
theorem dX10_made_103 : decode cX10_made 103 = .ok (.ifCond .eq 14, 3) := by decide +kernel
theorem dX10_made_106 : decode cX10_made 106 = .ok (.aload_n 0, 1) := by decide +kernel
theorem dX10_made_107 : decode cX10_made 107 = .ok (.getfield 7, 3) := by decide +kernel
theorem dX10_made_110 : decode cX10_made 110 = .ok (.iload_n 1, 1) := by decide +kernel
theorem dX10_made_111 : decode cX10_made 111 = .ok (.iaload, 1) := by decide +kernel
theorem dX10_made_112 : decode cX10_made 112 = .ok (.iconst 1, 1) := by decide +kernel
theorem dX10_made_113 : decode cX10_made 113 = .ok (.isub, 1) := by decide +kernel
theorem dX10_made_114 : decode cX10_made 114 = .ok (.goto 9, 3) := by decide +kernel
theorem dX10_made_117 : decode cX10_made 117 = .ok (.aload_n 0, 1) := by decide +kernel
theorem dX10_made_118 : decode cX10_made 118 = .ok (.getfield 7, 3) := by decide +kernel
theorem dX10_made_121 : decode cX10_made 121 = .ok (.iload_n 1, 1) := by decide +kernel
theorem dX10_made_122 : decode cX10_made 122 = .ok (.iaload, 1) := by decide +kernel
theorem dX10_made_123 : decode cX10_made 123 = .ok (.istore 6, 2) := by decide +kernel
theorem dX10_made_125 : decode cX10_made 125 = .ok (.iconst 0, 1) := by decide +kernel
theorem dX10_made_126 : decode cX10_made 126 = .ok (.istore 7, 2) := by decide +kernel
theorem dX10_made_128 : decode cX10_made 128 = .ok (.iload 7, 2) := by decide +kernel
theorem dX10_made_130 : decode cX10_made 130 = .ok (.iconst 1, 1) := by decide +kernel
theorem dX10_made_131 : decode cX10_made 131 = .ok (.iload 6, 2) := by decide +kernel
theorem dX10_made_133 : decode cX10_made 133 = .ok (.ishl, 1) := by decide +kernel
theorem dX10_made_134 : decode cX10_made 134 = .ok (.if_icmp .ge 110, 3) := by decide +kernel
theorem dX10_made_137 : decode cX10_made 137 = .ok (.iload_n 3, 1) := by decide +kernel
theorem dX10_made_138 : decode cX10_made 138 = .ok (.ifCond .ne 13, 3) := by decide +kernel
theorem dX10_made_141 : decode cX10_made 141 = .ok (.aload_n 0, 1) := by decide +kernel
theorem dX10_made_142 : decode cX10_made 142 = .ok (.iload_n 1, 1) := by decide +kernel
theorem dX10_made_143 : decode cX10_made 143 = .ok (.iload 7, 2) := by decide +kernel
theorem dX10_made_145 : decode cX10_made 145 = .ok (.invokevirtual 123, 3) := by decide +kernel
theorem dX10_made_148 : decode cX10_made 148 = .ok (.goto 61, 3) := by decide +kernel
theorem dX10_made_151 : decode cX10_made 151 = .ok (.iload_n 3, 1) := by decide +kernel
theorem dX10_made_152 : decode cX10_made 152 = .ok (.iconst 1, 1) := by decide +kernel
theorem dX10_made_153 : decode cX10_made 153 = .ok (.if_icmp .ne 21, 3) := by decide +kernel
theorem dX10_made_156 : decode cX10_made 156 = .ok (.aload_n 0, 1) := by decide +kernel
theorem dX10_made_157 : decode cX10_made 157 = .ok (.iload_n 1, 1) := by decide +kernel
theorem dX10_made_158 : decode cX10_made 158 = .ok (.aload_n 0, 1) := by decide +kernel
theorem dX10_made_159 : decode cX10_made 159 = .ok (.iload_n 1, 1) := by decide +kernel
theorem dX10_made_160 : decode cX10_made 160 = .ok (.invokevirtual 119, 3) := by decide +kernel
theorem dX10_made_163 : decode cX10_made 163 = .ok (.iconst 1, 1) := by decide +kernel
theorem dX10_made_164 : decode cX10_made 164 = .ok (.isub, 1) := by decide +kernel
theorem dX10_made_165 : decode cX10_made 165 = .ok (.iload 7, 2) := by decide +kernel
theorem dX10_made_167 : decode cX10_made 167 = .ok (.isub, 1) := by decide +kernel
theorem dX10_made_168 : decode cX10_made 168 = .ok (.invokevirtual 123, 3) := by decide +kernel
theorem dX10_made_171 : decode cX10_made 171 = .ok (.goto 38, 3) := by decide +kernel
theorem dX10_made_174 : decode cX10_made 174 = .ok (.iload 5, 2) := by decide +kernel
theorem dX10_made_176 : decode cX10_made 176 = .ok (.ifCond .eq 21, 3) := by decide +kernel
theorem dX10_made_179 : decode cX10_made 179 = .ok (.aload_n 0, 1) := by decide +kernel
theorem dX10_made_180 : decode cX10_made 180 = .ok (.iload_n 1, 1) := by decide +kernel
theorem dX10_made_181 : decode cX10_made 181 = .ok (.iload 7, 2) := by decide +kernel
theorem dX10_made_183 : decode cX10_made 183 = .ok (.iload 4, 2) := by decide +kernel
theorem dX10_made_185 : decode cX10_made 185 = .ok (.iload_n 3, 1) := by decide +kernel
theorem dX10_made_186 : decode cX10_made 186 = .ok (.iconst 2, 1) := by decide +kernel
theorem dX10_made_187 : decode cX10_made 187 = .ok (.isub, 1) := by decide +kernel
theorem dX10_made_188 : decode cX10_made 188 = .ok (.invokestatic 169, 3) := by decide +kernel
theorem dX10_made_191 : decode cX10_made 191 = .ok (.invokevirtual 123, 3) := by decide +kernel
theorem dX10_made_194 : decode cX10_made 194 = .ok (.goto 15, 3) := by decide +kernel
theorem dX10_made_197 : decode cX10_made 197 = .ok (.aload_n 0, 1) := by decide +kernel
theorem dX10_made_198 : decode cX10_made 198 = .ok (.iload_n 1, 1) := by decide +kernel
theorem dX10_made_199 : decode cX10_made 199 = .ok (.iload 7, 2) := by decide +kernel
theorem dX10_made_201 : decode cX10_made 201 = .ok (.iconst 1, 1) := by decide +kernel
theorem dX10_made_202 : decode cX10_made 202 = .ok (.iload 4, 2) := by decide +kernel
theorem dX10_made_204 : decode cX10_made 204 = .ok (.ishl, 1) := by decide +kernel
theorem dX10_made_205 : decode cX10_made 205 = .ok (.ixor, 1) := by decide +kernel
theorem dX10_made_206 : decode cX10_made 206 = .ok (.invokevirtual 123, 3) := by decide +kernel
theorem dX10_made_209 : decode cX10_made 209 = .ok (.istore 8, 2) := by decide +kernel
theorem dX10_made_211 : decode cX10_made 211 = .ok (.aload_n 0, 1) := by decide +kernel
theorem dX10_made_212 : decode cX10_made 212 = .ok (.getfield 45, 3) := by decide +kernel
theorem dX10_made_215 : decode cX10_made 215 = .ok (.iload 7, 2) := by decide +kernel
theorem dX10_made_217 : decode cX10_made 217 = .ok (.iload_n 3, 1) := by decide +kernel
theorem dX10_made_218 : decode cX10_made 218 = .ok (.iconst 1, 1) := by decide +kernel
theorem dX10_made_219 : decode cX10_made 219 = .ok (.if_icmp .gt 16, 3) := by decide +kernel
theorem dX10_made_222 : decode cX10_made 222 = .ok (.iload 8, 2) := by decide +kernel
theorem dX10_made_224 : decode cX10_made 224 = .ok (.iconst 2, 1) := by decide +kernel
theorem dX10_made_225 : decode cX10_made 225 = .ok (.if_icmp .ge 10, 3) := by decide +kernel
theorem dX10_made_228 : decode cX10_made 228 = .ok (.iconst 1, 1) := by decide +kernel
theorem dX10_made_229 : decode cX10_made 229 = .ok (.iload 8, 2) := by decide +kernel
theorem dX10_made_231 : decode cX10_made 231 = .ok (.isub, 1) := by decide +kernel
theorem dX10_made_232 : decode cX10_made 232 = .ok (.goto 5, 3) := by decide +kernel
theorem dX10_made_235 : decode cX10_made 235 = .ok (.iload 8, 2) := by decide +kernel
theorem dX10_made_237 : decode cX10_made 237 = .ok (.iastore, 1) := by decide +kernel
theorem dX10_made_238 : decode cX10_made 238 = .ok (.iinc 7 1, 3) := by decide +kernel
theorem dX10_made_241 : decode cX10_made 241 = .ok (.goto (-113), 3) := by decide +kernel
theorem dX10_made_244 : decode cX10_made 244 = .ok (.aload_n 0, 1) := by decide +kernel
theorem dX10_made_245 : decode cX10_made 245 = .ok (.iload_n 2, 1) := by decide +kernel
theorem dX10_made_246 : decode cX10_made 246 = .ok (.iload 6, 2) := by decide +kernel
theorem dX10_made_248 : decode cX10_made 248 = .ok (.iconst 0, 1) := by decide +kernel
theorem dX10_made_249 : decode cX10_made 249 = .ok (.iconst 0, 1) := by decide +kernel
theorem dX10_made_250 : decode cX10_made 250 = .ok (.invokevirtual 162, 3) := by decide +kernel
theorem dX10_made_253 : decode cX10_made 253 = .ok (.iload 6, 2) := by decide +kernel
theorem dX10_made_255 : decode cX10_made 255 = .ok (.ireturn, 1) := by decide +kernel
abbrev rmX10_made : Room := { frames := 1, cells := 0, slots := 0, locals := 25 }
theorem yd_X10_made : yX10_made.cls = RX10 ∧ yX10_made.cls ≠ "java/lang/invoke/MethodHandle" ∧ yX10_made.cls ≠ "java/lang/invoke/VarHandle" ∧ (parseMethodDescriptor yX10_made.desc).map (fun d => d.parameters.length) = some 4 := by decide +kernel
def fX10_made_L128_J237 (r : RS) (l1 : Int32) (l2 : Int32) (l3 : Int32) (l4 : Int32) (l5 : Int32) (l6 : Int32) (l7 : Int32) (s0 : Int32) (s1 : Int32) : Option ((Int32 × RS) ⊕ RS) :=
  (sA r 9 256 s1 s0).bind fun r6 =>
  some (.inl ((l7 + (1 : Int32)), r6))
def fX10_made_L128_J235 (r : RS) (l1 : Int32) (l2 : Int32) (l3 : Int32) (l4 : Int32) (l5 : Int32) (l6 : Int32) (l7 : Int32) (l8 : Int32) (s0 : Int32) : Option ((Int32 × RS) ⊕ RS) :=
  fX10_made_L128_J237 r l1 l2 l3 l4 l5 l6 l7 l8 s0
def fX10_made_L128_J209 (r : RS) (l1 : Int32) (l2 : Int32) (l3 : Int32) (l4 : Int32) (l5 : Int32) (l6 : Int32) (l7 : Int32) (s0 : Int32) : Option ((Int32 × RS) ⊕ RS) :=
  if (1 : Int32) < l3 then
    fX10_made_L128_J235 r l1 l2 l3 l4 l5 l6 l7 s0 l7
  else
    if (2 : Int32) ≤ s0 then
      fX10_made_L128_J235 r l1 l2 l3 l4 l5 l6 l7 s0 l7
    else
      fX10_made_L128_J237 r l1 l2 l3 l4 l5 l6 l7 ((1 : Int32) - s0) l7
def fX10_made_L128 (r : RS) (l1 : Int32) (l2 : Int32) (l3 : Int32) (l4 : Int32) (l5 : Int32) (l6 : Int32) (l7 : Int32) : Option ((Int32 × RS) ⊕ RS) :=
  if ((1 : Int32) <<< (l6 &&& 31)) ≤ l7 then
    some (.inr r)
  else
    if l3 = 0 then
      (fX10_say0 r l1 l7).bind fun q11 =>
      fX10_made_L128_J209 r l1 l2 l3 l4 l5 l6 l7 q11
    else
      if l3 = (1 : Int32) then
        (fX10_inputs r l1).bind fun q9 =>
        (fX10_say0 r l1 ((q9 - (1 : Int32)) - l7)).bind fun q10 =>
        fX10_made_L128_J209 r l1 l2 l3 l4 l5 l6 l7 q10
      else
        if l5 = 0 then
          (fX10_say0 r l1 (l7 ^^^ ((1 : Int32) <<< (l4 &&& 31)))).bind fun q5 =>
          fX10_made_L128_J209 r l1 l2 l3 l4 l5 l6 l7 q5
        else
          (fX10_with l7 l4 (l3 - (2 : Int32))).bind fun q7 =>
          (fX10_say0 r l1 q7).bind fun q8 =>
          fX10_made_L128_J209 r l1 l2 l3 l4 l5 l6 l7 q8
def fX10_made_J123 (r : RS) (l1 : Int32) (l2 : Int32) (l3 : Int32) (l4 : Int32) (l5 : Int32) (s0 : Int32) : Option (Int32 × RS) :=
  (lpN (fun u => fX10_made_L128 u.2 l1 l2 l3 l4 l5 s0 u.1) bigN ((0 : Int32), r)).bind fun e12 =>
  (fX10_lay e12 l2 s0 (0 : Int32) (0 : Int32)).bind fun q13 =>
  some (s0, q13)
def fX10_made_J101 (r : RS) (l1 : Int32) (l2 : Int32) (l3 : Int32) (l4 : Int32) (l5 : Int32) : Option (Int32 × RS) :=
  if l5 = 0 then
    (aI 16 (r.2.1 0) l1).bind fun v4 =>
    fX10_made_J123 r l1 l2 l3 l4 l5 v4
  else
    (aI 16 (r.2.1 0) l1).bind fun v14 =>
    fX10_made_J123 r l1 l2 l3 l4 l5 (v14 - (1 : Int32))
def fX10_made_J81 (r : RS) (l1 : Int32) (l2 : Int32) (l3 : Int32) (l4 : Int32) (s0 : Int32) : Option (Int32 × RS) :=
  if s0 = 0 then
    fX10_made_J101 r l1 l2 l3 l4 s0
  else
    (aI 16 (r.2.1 0) l1).bind fun v15 =>
    if v15 = (1 : Int32) then
      some ((-5 : Int32), r)
    else
      fX10_made_J101 r l1 l2 l3 l4 s0
def fX10_made_J76 (r : RS) (l1 : Int32) (l2 : Int32) (l3 : Int32) (l4 : Int32) : Option (Int32 × RS) :=
  fX10_made_J81 r l1 l2 l3 l4 (1 : Int32)
def fX10_made_J66 (r : RS) (l1 : Int32) (l2 : Int32) (l3 : Int32) (l4 : Int32) : Option (Int32 × RS) :=
  if l3 = (2 : Int32) then
    fX10_made_J76 r l1 l2 l3 l4
  else
    if l3 = (3 : Int32) then
      fX10_made_J76 r l1 l2 l3 l4
    else
      fX10_made_J81 r l1 l2 l3 l4 (0 : Int32)
def fX10_made_J63 (r : RS) : Option (Int32 × RS) :=
  some ((-2 : Int32), r)
def fX10_made_J23 (r : RS) : Option (Int32 × RS) :=
  some ((-2 : Int32), r)
def fX10_made (r : RS) (a1 : Int32) (a2 : Int32) (a3 : Int32) (a4 : Int32) : Option (Int32 × RS) :=
  (fX10_isPlace a1).bind fun q1 =>
  if q1 = 0 then
    fX10_made_J23 r
  else
    (fX10_isPlace a2).bind fun q2 =>
    if q2 = 0 then
      fX10_made_J23 r
    else
      if a3 < 0 then
        fX10_made_J23 r
      else
        if a3 ≤ (4 : Int32) then
          (aI 16 (r.2.1 0) a1).bind fun v3 =>
          if v3 = 0 then
            (fX10_meet r (-10 : Int32)).bind fun q17 =>
            some (q17.1, q17.2)
          else
            if a3 < (2 : Int32) then
              fX10_made_J66 r a1 a2 a3 a4
            else
              if a4 < 0 then
                fX10_made_J63 r
              else
                (aI 16 (r.2.1 0) a1).bind fun v16 =>
                if a4 < v16 then
                  fX10_made_J66 r a1 a2 a3 a4
                else
                  fX10_made_J63 r
        else
          fX10_made_J23 r
set_option maxHeartbeats 4000000 in
set_option maxRecDepth 100000 in
theorem tX10_made_L128 {κ : KK} {p : Program} {l : Launch} {e : Env} {s : State} {m : MethodId} {args : Array Value} {below : List Frame} {meth : Method} {c : Code} (C : Cx κ p s m args meth c cX10_made 9 RX10 (some .int)) {o : Nat} {v : Option Value} {B' : Heap → Prop} {r : RS} {l1 : Int32} {l2 : Int32} {l3 : Int32} {l4 : Int32} {l5 : Int32} {l6 : Int32} {l7 : Int32} {y : (Int32 × RS) ⊕ RS} (h : fX10_made_L128 r l1 l2 l3 l4 l5 l6 l7 = some y) (kc : ∀ u, y = .inl u → GR κ p l e s m args below meth c rmX10_made 9 o v B' u.2 128 [(0, .ref o), (1, .int l1), (2, .int l2), (3, .int l3), (4, .int l4), (5, .int l5), (6, .int l6), (7, .int u.1)] []) (kx : ∀ w, y = .inr w → GR κ p l e s m args below meth c rmX10_made 9 o v B' w 244 [(0, .ref o), (2, .int l2), (6, .int l6)] []) : GR κ p l e s m args below meth c rmX10_made 9 o v B' r 128 [(0, .ref o), (1, .int l1), (2, .int l2), (3, .int l3), (4, .int l4), (5, .int l5), (6, .int l6), (7, .int l7)] [] := by
  have J237 : ∀ (r : RS) (l7 : Int32) (s0 : Int32) (s1 : Int32), fX10_made_L128_J237 r l1 l2 l3 l4 l5 l6 l7 s0 s1 = some y → GR κ p l e s m args below meth c rmX10_made 9 o v B' r 237 [(0, .ref o), (1, .int l1), (2, .int l2), (3, .int l3), (4, .int l4), (5, .int l5), (6, .int l6), (7, .int l7)] [.int s0, .int s1, .ref (o + 10)] := by
    intro r l7 s0 s1 h
    unfold fX10_made_L128_J237 at h
    obtain ⟨r6, hr6, h⟩ := ob h
    refine R_s_made (pc' := 238) C dX10_made_237 hr6 rfl ?_
    refine G_iinc (pc' := 241) C dX10_made_238 7 rfl rfl [(7, .int (l7 + (1 : Int32))), (0, .ref o), (1, .int l1), (2, .int l2), (3, .int l3), (4, .int l4), (5, .int l5), (6, .int l6)] (by decide) rfl rfl ?_
    refine G_goto (tgt := 128) C dX10_made_241 (by decide) ?_
    exact G_sub [1, 2, 3, 4, 5, 6, 7, 0] rfl (kc _ (Option.some.inj h).symm)
  have J235 : ∀ (r : RS) (l7 : Int32) (l8 : Int32) (s0 : Int32), fX10_made_L128_J235 r l1 l2 l3 l4 l5 l6 l7 l8 s0 = some y → GR κ p l e s m args below meth c rmX10_made 9 o v B' r 235 [(0, .ref o), (1, .int l1), (2, .int l2), (3, .int l3), (4, .int l4), (5, .int l5), (6, .int l6), (7, .int l7), (8, .int l8)] [.int s0, .ref (o + 10)] := by
    intro r l7 l8 s0 h
    unfold fX10_made_L128_J235 at h
    refine G_iload (pc' := 237) C dX10_made_235 8 rfl rfl ?_
    exact G_sub [0, 1, 2, 3, 4, 5, 6, 7] rfl (J237 r l7 l8 s0 h)
  have J209 : ∀ (r : RS) (l7 : Int32) (s0 : Int32), fX10_made_L128_J209 r l1 l2 l3 l4 l5 l6 l7 s0 = some y → GR κ p l e s m args below meth c rmX10_made 9 o v B' r 209 [(0, .ref o), (1, .int l1), (2, .int l2), (3, .int l3), (4, .int l4), (5, .int l5), (6, .int l6), (7, .int l7)] [.int s0] := by
    intro r l7 s0 h
    unfold fX10_made_L128_J209 at h
    refine G_istore (pc' := 211) C dX10_made_209 [(8, .int s0), (0, .ref o), (1, .int l1), (2, .int l2), (3, .int l3), (4, .int l4), (5, .int l5), (6, .int l6), (7, .int l7)] (by decide) rfl rfl ?_
    refine G_aload_n (pc' := 212) C dX10_made_211 1 rfl rfl ?_
    refine R_g_made (pc' := 215) C dX10_made_212 rfl ?_
    refine G_iload (pc' := 217) C dX10_made_215 8 rfl rfl ?_
    refine G_iload_n (pc' := 218) C dX10_made_217 4 rfl rfl ?_
    refine G_iconst (pc' := 219) (v := (1 : Int32)) C dX10_made_218 (by decide) rfl ?_
    refine G_icmp_gt (tgt := 235) (pc' := 222) C dX10_made_219 (by decide) rfl (fun hc => ?_) (fun hc => ?_)
    · replace h := z_ip hc h
      exact G_sub [1, 2, 3, 4, 5, 6, 7, 8, 0] rfl (J235 r l7 s0 l7 h)
    · replace h := z_in hc h
      refine G_iload (pc' := 224) C dX10_made_222 0 rfl rfl ?_
      refine G_iconst (pc' := 225) (v := (2 : Int32)) C dX10_made_224 (by decide) rfl ?_
      refine G_icmp_ge (tgt := 235) (pc' := 228) C dX10_made_225 (by decide) rfl (fun hc => ?_) (fun hc => ?_)
      · replace h := z_ip hc h
        exact G_sub [1, 2, 3, 4, 5, 6, 7, 8, 0] rfl (J235 r l7 s0 l7 h)
      · replace h := z_in hc h
        refine G_iconst (pc' := 229) (v := (1 : Int32)) C dX10_made_228 (by decide) rfl ?_
        refine G_iload (pc' := 231) C dX10_made_229 0 rfl rfl ?_
        refine G_isub (pc' := 232) C dX10_made_231 rfl ?_
        refine G_goto (tgt := 237) C dX10_made_232 (by decide) ?_
        exact G_sub [1, 2, 3, 4, 5, 6, 7, 8] rfl (J237 r l7 ((1 : Int32) - s0) l7 h)
  unfold fX10_made_L128 at h
  refine G_iload (pc' := 130) C dX10_made_128 7 rfl rfl ?_
  refine G_iconst (pc' := 131) (v := (1 : Int32)) C dX10_made_130 (by decide) rfl ?_
  refine G_iload (pc' := 133) C dX10_made_131 6 rfl rfl ?_
  refine G_ishl (pc' := 134) C dX10_made_133 rfl ?_
  refine G_icmp_ge (tgt := 244) (pc' := 137) C dX10_made_134 (by decide) rfl (fun hc => ?_) (fun hc => ?_)
  · replace h := z_ip hc h
    exact G_sub [0, 2, 6] rfl (kx _ (Option.some.inj h).symm)
  · replace h := z_in hc h
    refine G_iload_n (pc' := 138) C dX10_made_137 3 rfl rfl ?_
    refine G_if_ne (tgt := 151) (pc' := 141) C dX10_made_138 (by decide) rfl (fun hc => ?_) (fun hc => ?_)
    · replace h := z_in hc h
      refine G_iload_n (pc' := 152) C dX10_made_151 3 rfl rfl ?_
      refine G_iconst (pc' := 153) (v := (1 : Int32)) C dX10_made_152 (by decide) rfl ?_
      refine G_icmp_ne (tgt := 174) (pc' := 156) C dX10_made_153 (by decide) rfl (fun hc => ?_) (fun hc => ?_)
      · replace h := z_in hc h
        refine G_iload (pc' := 176) C dX10_made_174 5 rfl rfl ?_
        refine G_if_eq (tgt := 197) (pc' := 179) C dX10_made_176 (by decide) rfl (fun hc => ?_) (fun hc => ?_)
        · replace h := z_ip hc h
          refine G_aload_n (pc' := 198) C dX10_made_197 0 rfl rfl ?_
          refine G_iload_n (pc' := 199) C dX10_made_198 1 rfl rfl ?_
          refine G_iload (pc' := 201) C dX10_made_199 7 rfl rfl ?_
          refine G_iconst (pc' := 202) (v := (1 : Int32)) C dX10_made_201 (by decide) rfl ?_
          refine G_iload (pc' := 204) C dX10_made_202 4 rfl rfl ?_
          refine G_ishl (pc' := 205) C dX10_made_204 rfl ?_
          refine G_ixor (pc' := 206) C dX10_made_205 rfl ?_
          obtain ⟨q5, hq5, h⟩ := ob h
          refine G_cV0 (pc' := 209) C dX10_made_206 (tX10_say0 κ l o r l1 (l7 ^^^ ((1 : Int32) <<< (l4 &&& 31))) q5 hq5) (wV tw_ml_X10_123 tw_im_X10_say0 tw_se_X10_X10_say0 tw_in_X10 tw_co_X10_say0) yd_X10_say0 rfl fi_X10 (RB_rd 0 rfl) rfl rfl (by decide) rfl (Nat.le_of_ble_eq_true rfl) rfl rfl ?_
          exact G_sub [0, 1, 2, 3, 4, 5, 6, 7] rfl (J209 r l7 q5 h)
        · replace h := z_in hc h
          refine G_aload_n (pc' := 180) C dX10_made_179 0 rfl rfl ?_
          refine G_iload_n (pc' := 181) C dX10_made_180 1 rfl rfl ?_
          refine G_iload (pc' := 183) C dX10_made_181 7 rfl rfl ?_
          refine G_iload (pc' := 185) C dX10_made_183 4 rfl rfl ?_
          refine G_iload_n (pc' := 186) C dX10_made_185 3 rfl rfl ?_
          refine G_iconst (pc' := 187) (v := (2 : Int32)) C dX10_made_186 (by decide) rfl ?_
          refine G_isub (pc' := 188) C dX10_made_187 rfl ?_
          obtain ⟨q7, hq7, h⟩ := ob h
          refine G_cS0 (pc' := 191) C dX10_made_188 (tX10_with κ l (RA o) (RB κ o r) l7 l4 (l3 - (2 : Int32)) q7 hq7) (wS tw_ml_X10_169 tw_st_X10_with tw_co_X10_with tw_in_X10) yd_X10_with rfl rfl rfl (by decide) rfl (Nat.le_of_ble_eq_true rfl) rfl rfl ?_
          obtain ⟨q8, hq8, h⟩ := ob h
          refine G_cV0 (pc' := 194) C dX10_made_191 (tX10_say0 κ l o r l1 q7 q8 hq8) (wV tw_ml_X10_123 tw_im_X10_say0 tw_se_X10_X10_say0 tw_in_X10 tw_co_X10_say0) yd_X10_say0 rfl fi_X10 (RB_rd 0 rfl) rfl rfl (by decide) rfl (Nat.le_of_ble_eq_true rfl) rfl rfl ?_
          refine G_goto (tgt := 209) C dX10_made_194 (by decide) ?_
          exact G_sub [0, 1, 2, 3, 4, 5, 6, 7] rfl (J209 r l7 q8 h)
      · replace h := z_ip hc h
        refine G_aload_n (pc' := 157) C dX10_made_156 0 rfl rfl ?_
        refine G_iload_n (pc' := 158) C dX10_made_157 1 rfl rfl ?_
        refine G_aload_n (pc' := 159) C dX10_made_158 0 rfl rfl ?_
        refine G_iload_n (pc' := 160) C dX10_made_159 1 rfl rfl ?_
        obtain ⟨q9, hq9, h⟩ := ob h
        refine G_cV0 (pc' := 163) C dX10_made_160 (tX10_inputs κ l o r l1 q9 hq9) (wV tw_ml_X10_119 tw_im_X10_inputs tw_se_X10_X10_inputs tw_in_X10 tw_co_X10_inputs) yd_X10_inputs rfl fi_X10 (RB_rd 0 rfl) rfl rfl (by decide) rfl (Nat.le_of_ble_eq_true rfl) rfl rfl ?_
        refine G_iconst (pc' := 164) (v := (1 : Int32)) C dX10_made_163 (by decide) rfl ?_
        refine G_isub (pc' := 165) C dX10_made_164 rfl ?_
        refine G_iload (pc' := 167) C dX10_made_165 7 rfl rfl ?_
        refine G_isub (pc' := 168) C dX10_made_167 rfl ?_
        obtain ⟨q10, hq10, h⟩ := ob h
        refine G_cV0 (pc' := 171) C dX10_made_168 (tX10_say0 κ l o r l1 ((q9 - (1 : Int32)) - l7) q10 hq10) (wV tw_ml_X10_123 tw_im_X10_say0 tw_se_X10_X10_say0 tw_in_X10 tw_co_X10_say0) yd_X10_say0 rfl fi_X10 (RB_rd 0 rfl) rfl rfl (by decide) rfl (Nat.le_of_ble_eq_true rfl) rfl rfl ?_
        refine G_goto (tgt := 209) C dX10_made_171 (by decide) ?_
        exact G_sub [0, 1, 2, 3, 4, 5, 6, 7] rfl (J209 r l7 q10 h)
    · replace h := z_ip hc h
      refine G_aload_n (pc' := 142) C dX10_made_141 0 rfl rfl ?_
      refine G_iload_n (pc' := 143) C dX10_made_142 1 rfl rfl ?_
      refine G_iload (pc' := 145) C dX10_made_143 7 rfl rfl ?_
      obtain ⟨q11, hq11, h⟩ := ob h
      refine G_cV0 (pc' := 148) C dX10_made_145 (tX10_say0 κ l o r l1 l7 q11 hq11) (wV tw_ml_X10_123 tw_im_X10_say0 tw_se_X10_X10_say0 tw_in_X10 tw_co_X10_say0) yd_X10_say0 rfl fi_X10 (RB_rd 0 rfl) rfl rfl (by decide) rfl (Nat.le_of_ble_eq_true rfl) rfl rfl ?_
      refine G_goto (tgt := 209) C dX10_made_148 (by decide) ?_
      exact G_sub [0, 1, 2, 3, 4, 5, 6, 7] rfl (J209 r l7 q11 h)
set_option maxHeartbeats 4000000 in
set_option maxRecDepth 100000 in
theorem tX10_made (κ : KK) (l : Launch) (o : Nat) (r : RS) (a1 : Int32) (a2 : Int32) (a3 : Int32) (a4 : Int32) (q : Int32 × RS) (h : fX10_made r a1 a2 a3 a4 = some q) : MM κ l yX10_made cX10_made 9 (some .int) rmX10_made (RA o) [.ref o, .int a1, .int a2, .int a3, .int a4] (RB κ o r) (some (Value.int q.1)) (RB κ o q.2) := by
  refine MM.of (by decide +kernel) (Nat.le_of_ble_eq_true rfl) ?_
  intro p e s m below meth c C hnm
  have J123 : ∀ (r : RS) (l1 : Int32) (l2 : Int32) (l3 : Int32) (l4 : Int32) (l5 : Int32) (s0 : Int32), fX10_made_J123 r l1 l2 l3 l4 l5 s0 = some q → GR κ p l e s m ([.ref o, .int a1, .int a2, .int a3, .int a4] : List Value).toArray below meth c rmX10_made 9 o (some (Value.int q.1)) (RB κ o q.2) r 123 [(0, .ref o), (1, .int l1), (2, .int l2), (3, .int l3), (4, .int l4), (5, .int l5)] [.int s0] := by
    intro r l1 l2 l3 l4 l5 s0 h
    unfold fX10_made_J123 at h
    refine G_istore (pc' := 125) C dX10_made_123 [(6, .int s0), (0, .ref o), (1, .int l1), (2, .int l2), (3, .int l3), (4, .int l4), (5, .int l5)] (by decide) rfl rfl ?_
    refine G_iconst (pc' := 126) (v := (0 : Int32)) C dX10_made_125 (by decide) rfl ?_
    refine G_istore (pc' := 128) C dX10_made_126 [(7, .int (0 : Int32)), (6, .int s0), (0, .ref o), (1, .int l1), (2, .int l2), (3, .int l3), (4, .int l4), (5, .int l5)] (by decide) rfl rfl ?_
    obtain ⟨e12, hle12, h⟩ := ob h
    refine G_sub (lv' := [(0, .ref o), (1, .int l1), (2, .int l2), (3, .int l3), (4, .int l4), (5, .int l5), (6, .int s0), (7, .int (0 : Int32))]) [2, 3, 4, 5, 6, 7, 1, 0] rfl ?_
    refine lpN_ind (P := fun u => GR κ p l e s m ([.ref o, .int a1, .int a2, .int a3, .int a4] : List Value).toArray below meth c rmX10_made 9 o (some (Value.int q.1)) (RB κ o q.2) u.2 128 [(0, .ref o), (1, .int l1), (2, .int l2), (3, .int l3), (4, .int l4), (5, .int l5), (6, .int s0), (7, .int u.1)] []) (X := fun w => GR κ p l e s m ([.ref o, .int a1, .int a2, .int a3, .int a4] : List Value).toArray below meth c rmX10_made 9 o (some (Value.int q.1)) (RB κ o q.2) w 244 [(0, .ref o), (2, .int l2), (6, .int s0)] []) (fun u y hb kc kx => tX10_made_L128 C hb kc kx) _ _ _ hle12 ?_
    refine G_aload_n (pc' := 245) C dX10_made_244 0 rfl rfl ?_
    refine G_iload_n (pc' := 246) C dX10_made_245 1 rfl rfl ?_
    refine G_iload (pc' := 248) C dX10_made_246 2 rfl rfl ?_
    refine G_iconst (pc' := 249) (v := (0 : Int32)) C dX10_made_248 (by decide) rfl ?_
    refine G_iconst (pc' := 250) (v := (0 : Int32)) C dX10_made_249 (by decide) rfl ?_
    obtain ⟨q13, hq13, h⟩ := ob h
    refine G_cV0 (pc' := 253) C dX10_made_250 (tX10_lay κ l o e12 l2 s0 (0 : Int32) (0 : Int32) q13 hq13) (wV tw_ml_X10_162 tw_im_X10_lay tw_se_X10_X10_lay tw_in_X10 tw_co_X10_lay) yd_X10_lay rfl fi_X10 (RB_rd 0 rfl) rfl rfl (by decide) rfl (Nat.le_of_ble_eq_true rfl) rfl rfl ?_
    refine G_iload (pc' := 255) C dX10_made_253 2 rfl rfl ?_
    obtain rfl := Option.some.inj h
    exact G_iret C dX10_made_255 (fun _ h => h)
  have J101 : ∀ (r : RS) (l1 : Int32) (l2 : Int32) (l3 : Int32) (l4 : Int32) (l5 : Int32), fX10_made_J101 r l1 l2 l3 l4 l5 = some q → GR κ p l e s m ([.ref o, .int a1, .int a2, .int a3, .int a4] : List Value).toArray below meth c rmX10_made 9 o (some (Value.int q.1)) (RB κ o q.2) r 101 [(0, .ref o), (1, .int l1), (2, .int l2), (3, .int l3), (4, .int l4), (5, .int l5)] [] := by
    intro r l1 l2 l3 l4 l5 h
    unfold fX10_made_J101 at h
    refine G_iload (pc' := 103) C dX10_made_101 5 rfl rfl ?_
    refine G_if_eq (tgt := 117) (pc' := 106) C dX10_made_103 (by decide) rfl (fun hc => ?_) (fun hc => ?_)
    · replace h := z_ip hc h
      refine G_aload_n (pc' := 118) C dX10_made_117 0 rfl rfl ?_
      refine R_g_bits (pc' := 121) C dX10_made_118 rfl ?_
      refine G_iload_n (pc' := 122) C dX10_made_121 1 rfl rfl ?_
      obtain ⟨v4, hv4, h⟩ := ob h
      refine R_l_bits (pc' := 123) C dX10_made_122 hv4 rfl ?_
      exact G_sub [0, 1, 2, 3, 4, 5] rfl (J123 r l1 l2 l3 l4 l5 v4 h)
    · replace h := z_in hc h
      refine G_aload_n (pc' := 107) C dX10_made_106 0 rfl rfl ?_
      refine R_g_bits (pc' := 110) C dX10_made_107 rfl ?_
      refine G_iload_n (pc' := 111) C dX10_made_110 1 rfl rfl ?_
      obtain ⟨v14, hv14, h⟩ := ob h
      refine R_l_bits (pc' := 112) C dX10_made_111 hv14 rfl ?_
      refine G_iconst (pc' := 113) (v := (1 : Int32)) C dX10_made_112 (by decide) rfl ?_
      refine G_isub (pc' := 114) C dX10_made_113 rfl ?_
      refine G_goto (tgt := 123) C dX10_made_114 (by decide) ?_
      exact G_sub [0, 1, 2, 3, 4, 5] rfl (J123 r l1 l2 l3 l4 l5 (v14 - (1 : Int32)) h)
  have J81 : ∀ (r : RS) (l1 : Int32) (l2 : Int32) (l3 : Int32) (l4 : Int32) (s0 : Int32), fX10_made_J81 r l1 l2 l3 l4 s0 = some q → GR κ p l e s m ([.ref o, .int a1, .int a2, .int a3, .int a4] : List Value).toArray below meth c rmX10_made 9 o (some (Value.int q.1)) (RB κ o q.2) r 81 [(0, .ref o), (1, .int l1), (2, .int l2), (3, .int l3), (4, .int l4)] [.int s0] := by
    intro r l1 l2 l3 l4 s0 h
    unfold fX10_made_J81 at h
    refine G_istore (pc' := 83) C dX10_made_81 [(5, .int s0), (0, .ref o), (1, .int l1), (2, .int l2), (3, .int l3), (4, .int l4)] (by decide) rfl rfl ?_
    refine G_iload (pc' := 85) C dX10_made_83 0 rfl rfl ?_
    refine G_if_eq (tgt := 101) (pc' := 88) C dX10_made_85 (by decide) rfl (fun hc => ?_) (fun hc => ?_)
    · replace h := z_ip hc h
      exact G_sub [1, 2, 3, 4, 5, 0] rfl (J101 r l1 l2 l3 l4 s0 h)
    · replace h := z_in hc h
      refine G_aload_n (pc' := 89) C dX10_made_88 1 rfl rfl ?_
      refine R_g_bits (pc' := 92) C dX10_made_89 rfl ?_
      refine G_iload_n (pc' := 93) C dX10_made_92 2 rfl rfl ?_
      obtain ⟨v15, hv15, h⟩ := ob h
      refine R_l_bits (pc' := 94) C dX10_made_93 hv15 rfl ?_
      refine G_iconst (pc' := 95) (v := (1 : Int32)) C dX10_made_94 (by decide) rfl ?_
      refine G_icmp_ne (tgt := 101) (pc' := 98) C dX10_made_95 (by decide) rfl (fun hc => ?_) (fun hc => ?_)
      · replace h := z_in hc h
        exact G_sub [1, 2, 3, 4, 5, 0] rfl (J101 r l1 l2 l3 l4 s0 h)
      · replace h := z_ip hc h
        refine G_bipush (pc' := 100) (v := (-5 : Int32)) C dX10_made_98 (by decide) rfl ?_
        obtain rfl := Option.some.inj h
        exact G_iret C dX10_made_100 (fun _ h => h)
  have J76 : ∀ (r : RS) (l1 : Int32) (l2 : Int32) (l3 : Int32) (l4 : Int32), fX10_made_J76 r l1 l2 l3 l4 = some q → GR κ p l e s m ([.ref o, .int a1, .int a2, .int a3, .int a4] : List Value).toArray below meth c rmX10_made 9 o (some (Value.int q.1)) (RB κ o q.2) r 76 [(0, .ref o), (1, .int l1), (2, .int l2), (3, .int l3), (4, .int l4)] [] := by
    intro r l1 l2 l3 l4 h
    unfold fX10_made_J76 at h
    refine G_iconst (pc' := 77) (v := (1 : Int32)) C dX10_made_76 (by decide) rfl ?_
    refine G_goto (tgt := 81) C dX10_made_77 (by decide) ?_
    exact G_sub [0, 1, 2, 3, 4] rfl (J81 r l1 l2 l3 l4 (1 : Int32) h)
  have J66 : ∀ (r : RS) (l1 : Int32) (l2 : Int32) (l3 : Int32) (l4 : Int32), fX10_made_J66 r l1 l2 l3 l4 = some q → GR κ p l e s m ([.ref o, .int a1, .int a2, .int a3, .int a4] : List Value).toArray below meth c rmX10_made 9 o (some (Value.int q.1)) (RB κ o q.2) r 66 [(0, .ref o), (1, .int l1), (2, .int l2), (3, .int l3), (4, .int l4)] [] := by
    intro r l1 l2 l3 l4 h
    unfold fX10_made_J66 at h
    refine G_iload_n (pc' := 67) C dX10_made_66 3 rfl rfl ?_
    refine G_iconst (pc' := 68) (v := (2 : Int32)) C dX10_made_67 (by decide) rfl ?_
    refine G_icmp_eq (tgt := 76) (pc' := 71) C dX10_made_68 (by decide) rfl (fun hc => ?_) (fun hc => ?_)
    · replace h := z_ip hc h
      exact G_sub [0, 1, 2, 3, 4] rfl (J76 r l1 l2 l3 l4 h)
    · replace h := z_in hc h
      refine G_iload_n (pc' := 72) C dX10_made_71 3 rfl rfl ?_
      refine G_iconst (pc' := 73) (v := (3 : Int32)) C dX10_made_72 (by decide) rfl ?_
      refine G_icmp_ne (tgt := 80) (pc' := 76) C dX10_made_73 (by decide) rfl (fun hc => ?_) (fun hc => ?_)
      · replace h := z_in hc h
        refine G_iconst (pc' := 81) (v := (0 : Int32)) C dX10_made_80 (by decide) rfl ?_
        exact G_sub [0, 1, 2, 3, 4] rfl (J81 r l1 l2 l3 l4 (0 : Int32) h)
      · replace h := z_ip hc h
        exact G_sub [0, 1, 2, 3, 4] rfl (J76 r l1 l2 l3 l4 h)
  have J63 : ∀ (r : RS), fX10_made_J63 r = some q → GR κ p l e s m ([.ref o, .int a1, .int a2, .int a3, .int a4] : List Value).toArray below meth c rmX10_made 9 o (some (Value.int q.1)) (RB κ o q.2) r 63 [] [] := by
    intro r h
    unfold fX10_made_J63 at h
    refine G_bipush (pc' := 65) (v := (-2 : Int32)) C dX10_made_63 (by decide) rfl ?_
    obtain rfl := Option.some.inj h
    exact G_iret C dX10_made_65 (fun _ h => h)
  have J23 : ∀ (r : RS), fX10_made_J23 r = some q → GR κ p l e s m ([.ref o, .int a1, .int a2, .int a3, .int a4] : List Value).toArray below meth c rmX10_made 9 o (some (Value.int q.1)) (RB κ o q.2) r 23 [] [] := by
    intro r h
    unfold fX10_made_J23 at h
    refine G_bipush (pc' := 25) (v := (-2 : Int32)) C dX10_made_23 (by decide) rfl ?_
    obtain rfl := Option.some.inj h
    exact G_iret C dX10_made_25 (fun _ h => h)
  unfold fX10_made at h
  refine G_sub (lv' := [(0, .ref o), (1, .int a1), (2, .int a2), (3, .int a3), (4, .int a4)]) [0, 1, 2, 3, 4] rfl ?_
  refine G_iload_n (pc' := 1) C dX10_made_0 1 rfl rfl ?_
  obtain ⟨q1, hq1, h⟩ := ob h
  refine G_cS0 (pc' := 4) C dX10_made_1 (tX10_isPlace κ l (RA o) (RB κ o r) a1 q1 hq1) (wS tw_ml_X10_115 tw_st_X10_isPlace tw_co_X10_isPlace tw_in_X10) yd_X10_isPlace rfl rfl rfl (by decide) rfl (Nat.le_of_ble_eq_true rfl) rfl rfl ?_
  refine G_if_eq (tgt := 23) (pc' := 7) C dX10_made_4 (by decide) rfl (fun hc => ?_) (fun hc => ?_)
  · replace h := z_ip hc h
    exact G_sub [] rfl (J23 r h)
  · replace h := z_in hc h
    refine G_iload_n (pc' := 8) C dX10_made_7 2 rfl rfl ?_
    obtain ⟨q2, hq2, h⟩ := ob h
    refine G_cS0 (pc' := 11) C dX10_made_8 (tX10_isPlace κ l (RA o) (RB κ o r) a2 q2 hq2) (wS tw_ml_X10_115 tw_st_X10_isPlace tw_co_X10_isPlace tw_in_X10) yd_X10_isPlace rfl rfl rfl (by decide) rfl (Nat.le_of_ble_eq_true rfl) rfl rfl ?_
    refine G_if_eq (tgt := 23) (pc' := 14) C dX10_made_11 (by decide) rfl (fun hc => ?_) (fun hc => ?_)
    · replace h := z_ip hc h
      exact G_sub [] rfl (J23 r h)
    · replace h := z_in hc h
      refine G_iload_n (pc' := 15) C dX10_made_14 3 rfl rfl ?_
      refine G_if_lt (tgt := 23) (pc' := 18) C dX10_made_15 (by decide) rfl (fun hc => ?_) (fun hc => ?_)
      · replace h := z_ip hc h
        exact G_sub [] rfl (J23 r h)
      · replace h := z_in hc h
        refine G_iload_n (pc' := 19) C dX10_made_18 3 rfl rfl ?_
        refine G_iconst (pc' := 20) (v := (4 : Int32)) C dX10_made_19 (by decide) rfl ?_
        refine G_icmp_le (tgt := 26) (pc' := 23) C dX10_made_20 (by decide) rfl (fun hc => ?_) (fun hc => ?_)
        · replace h := z_ip hc h
          refine G_aload_n (pc' := 27) C dX10_made_26 0 rfl rfl ?_
          refine R_g_bits (pc' := 30) C dX10_made_27 rfl ?_
          refine G_iload_n (pc' := 31) C dX10_made_30 1 rfl rfl ?_
          obtain ⟨v3, hv3, h⟩ := ob h
          refine R_l_bits (pc' := 32) C dX10_made_31 hv3 rfl ?_
          refine G_if_ne (tgt := 42) (pc' := 35) C dX10_made_32 (by decide) rfl (fun hc => ?_) (fun hc => ?_)
          · replace h := z_in hc h
            refine G_iload_n (pc' := 43) C dX10_made_42 3 rfl rfl ?_
            refine G_iconst (pc' := 44) (v := (2 : Int32)) C dX10_made_43 (by decide) rfl ?_
            refine G_icmp_lt (tgt := 66) (pc' := 47) C dX10_made_44 (by decide) rfl (fun hc => ?_) (fun hc => ?_)
            · replace h := z_ip hc h
              exact G_sub [0, 1, 2, 3, 4] rfl (J66 r a1 a2 a3 a4 h)
            · replace h := z_in hc h
              refine G_iload (pc' := 49) C dX10_made_47 4 rfl rfl ?_
              refine G_if_lt (tgt := 63) (pc' := 52) C dX10_made_49 (by decide) rfl (fun hc => ?_) (fun hc => ?_)
              · replace h := z_ip hc h
                exact G_sub [] rfl (J63 r h)
              · replace h := z_in hc h
                refine G_iload (pc' := 54) C dX10_made_52 4 rfl rfl ?_
                refine G_aload_n (pc' := 55) C dX10_made_54 0 rfl rfl ?_
                refine R_g_bits (pc' := 58) C dX10_made_55 rfl ?_
                refine G_iload_n (pc' := 59) C dX10_made_58 1 rfl rfl ?_
                obtain ⟨v16, hv16, h⟩ := ob h
                refine R_l_bits (pc' := 60) C dX10_made_59 hv16 rfl ?_
                refine G_icmp_lt (tgt := 66) (pc' := 63) C dX10_made_60 (by decide) rfl (fun hc => ?_) (fun hc => ?_)
                · replace h := z_ip hc h
                  exact G_sub [0, 1, 2, 3, 4] rfl (J66 r a1 a2 a3 a4 h)
                · replace h := z_in hc h
                  exact G_sub [] rfl (J63 r h)
          · replace h := z_ip hc h
            refine G_aload_n (pc' := 36) C dX10_made_35 0 rfl rfl ?_
            refine G_bipush (pc' := 38) (v := (-10 : Int32)) C dX10_made_36 (by decide) rfl ?_
            obtain ⟨q17, hq17, h⟩ := ob h
            refine G_cV0 (pc' := 41) C dX10_made_38 (tX10_meet κ l o r (-10 : Int32) q17 hq17) (wV tw_ml_X10_136 tw_im_X10_meet tw_se_X10_X10_meet tw_in_X10 tw_co_X10_meet) yd_X10_meet rfl fi_X10 (RB_rd 0 rfl) rfl rfl (by decide) rfl (Nat.le_of_ble_eq_true rfl) rfl rfl ?_
            obtain rfl := Option.some.inj h
            exact G_iret C dX10_made_41 (fun _ h => h)
        · replace h := z_in hc h
          exact G_sub [] rfl (J23 r h)
theorem dX10_same_0 : decode cX10_same 0 = .ok (.iload_n 1, 1) := by decide +kernel
theorem dX10_same_1 : decode cX10_same 1 = .ok (.invokestatic 115, 3) := by decide +kernel
theorem dX10_same_4 : decode cX10_same 4 = .ok (.ifCond .eq 10, 3) := by decide +kernel
theorem dX10_same_7 : decode cX10_same 7 = .ok (.iload_n 2, 1) := by decide +kernel
theorem dX10_same_8 : decode cX10_same 8 = .ok (.invokestatic 115, 3) := by decide +kernel
theorem dX10_same_11 : decode cX10_same 11 = .ok (.ifCond .ne 6, 3) := by decide +kernel
theorem dX10_same_14 : decode cX10_same 14 = .ok (.bipush (-2), 2) := by decide +kernel
theorem dX10_same_16 : decode cX10_same 16 = .ok (.ireturn, 1) := by decide +kernel
theorem dX10_same_17 : decode cX10_same 17 = .ok (.aload_n 0, 1) := by decide +kernel
theorem dX10_same_18 : decode cX10_same 18 = .ok (.getfield 7, 3) := by decide +kernel
theorem dX10_same_21 : decode cX10_same 21 = .ok (.iload_n 1, 1) := by decide +kernel
theorem dX10_same_22 : decode cX10_same 22 = .ok (.iaload, 1) := by decide +kernel
theorem dX10_same_23 : decode cX10_same 23 = .ok (.ifCond .eq 12, 3) := by decide +kernel
theorem dX10_same_26 : decode cX10_same 26 = .ok (.aload_n 0, 1) := by decide +kernel
theorem dX10_same_27 : decode cX10_same 27 = .ok (.getfield 7, 3) := by decide +kernel
theorem dX10_same_30 : decode cX10_same 30 = .ok (.iload_n 2, 1) := by decide +kernel
theorem dX10_same_31 : decode cX10_same 31 = .ok (.iaload, 1) := by decide +kernel
theorem dX10_same_32 : decode cX10_same 32 = .ok (.ifCond .ne 10, 3) := by decide +kernel
theorem dX10_same_35 : decode cX10_same 35 = .ok (.aload_n 0, 1) := by decide +kernel
theorem dX10_same_36 : decode cX10_same 36 = .ok (.bipush (-10), 2) := by decide +kernel
theorem dX10_same_38 : decode cX10_same 38 = .ok (.invokevirtual 136, 3) := by decide +kernel
theorem dX10_same_41 : decode cX10_same 41 = .ok (.ireturn, 1) := by decide +kernel
theorem dX10_same_42 : decode cX10_same 42 = .ok (.aload_n 0, 1) := by decide +kernel
theorem dX10_same_43 : decode cX10_same 43 = .ok (.getfield 7, 3) := by decide +kernel
theorem dX10_same_46 : decode cX10_same 46 = .ok (.iload_n 1, 1) := by decide +kernel
theorem dX10_same_47 : decode cX10_same 47 = .ok (.iaload, 1) := by decide +kernel
theorem dX10_same_48 : decode cX10_same 48 = .ok (.aload_n 0, 1) := by decide +kernel
theorem dX10_same_49 : decode cX10_same 49 = .ok (.getfield 7, 3) := by decide +kernel
theorem dX10_same_52 : decode cX10_same 52 = .ok (.iload_n 2, 1) := by decide +kernel
theorem dX10_same_53 : decode cX10_same 53 = .ok (.iaload, 1) := by decide +kernel
theorem dX10_same_54 : decode cX10_same 54 = .ok (.if_icmp .ne 7, 3) := by decide +kernel
theorem dX10_same_57 : decode cX10_same 57 = .ok (.iconst 1, 1) := by decide +kernel
theorem dX10_same_58 : decode cX10_same 58 = .ok (.goto 4, 3) := by decide +kernel
theorem dX10_same_61 : decode cX10_same 61 = .ok (.iconst 0, 1) := by decide +kernel
theorem dX10_same_62 : decode cX10_same 62 = .ok (.istore_n 3, 1) := by decide +kernel
theorem dX10_same_63 : decode cX10_same 63 = .ok (.iconst 0, 1) := by decide +kernel
theorem dX10_same_64 : decode cX10_same 64 = .ok (.istore 4, 2) := by decide +kernel
theorem dX10_same_66 : decode cX10_same 66 = .ok (.iload 4, 2) := by decide +kernel
theorem dX10_same_68 : decode cX10_same 68 = .ok (.aload_n 0, 1) := by decide +kernel
theorem dX10_same_69 : decode cX10_same 69 = .ok (.iload_n 1, 1) := by decide +kernel
theorem dX10_same_70 : decode cX10_same 70 = .ok (.invokevirtual 119, 3) := by decide +kernel
theorem dX10_same_73 : decode cX10_same 73 = .ok (.if_icmp .ge 36, 3) := by decide +kernel
theorem dX10_same_76 : decode cX10_same 76 = .ok (.iload_n 3, 1) := by decide +kernel
theorem dX10_same_77 : decode cX10_same 77 = .ok (.ifCond .eq 32, 3) := by decide +kernel
theorem dX10_same_80 : decode cX10_same 80 = .ok (.aload_n 0, 1) := by decide +kernel
theorem dX10_same_81 : decode cX10_same 81 = .ok (.iload_n 1, 1) := by decide +kernel
theorem dX10_same_82 : decode cX10_same 82 = .ok (.iload 4, 2) := by decide +kernel
theorem dX10_same_84 : decode cX10_same 84 = .ok (.invokevirtual 123, 3) := by decide +kernel
theorem dX10_same_87 : decode cX10_same 87 = .ok (.aload_n 0, 1) := by decide +kernel
theorem dX10_same_88 : decode cX10_same 88 = .ok (.iload_n 2, 1) := by decide +kernel
theorem dX10_same_89 : decode cX10_same 89 = .ok (.iload 4, 2) := by decide +kernel
theorem dX10_same_91 : decode cX10_same 91 = .ok (.invokevirtual 123, 3) := by decide +kernel
theorem dX10_same_94 : decode cX10_same 94 = .ok (.if_icmp .ne 7, 3) := by decide +kernel
theorem dX10_same_97 : decode cX10_same 97 = .ok (.iconst 1, 1) := by decide +kernel
theorem dX10_same_98 : decode cX10_same 98 = .ok (.goto 4, 3) := by decide +kernel
theorem dX10_same_101 : decode cX10_same 101 = .ok (.iconst 0, 1) := by decide +kernel
theorem dX10_same_102 : decode cX10_same 102 = .ok (.istore_n 3, 1) := by decide +kernel
theorem dX10_same_103 : decode cX10_same 103 = .ok (.iinc 4 1, 3) := by decide +kernel
theorem dX10_same_106 : decode cX10_same 106 = .ok (.goto (-40), 3) := by decide +kernel
theorem dX10_same_109 : decode cX10_same 109 = .ok (.iload_n 3, 1) := by decide +kernel
theorem dX10_same_110 : decode cX10_same 110 = .ok (.ifCond .eq 7, 3) := by decide +kernel
theorem dX10_same_113 : decode cX10_same 113 = .ok (.iconst 1, 1) := by decide +kernel
theorem dX10_same_114 : decode cX10_same 114 = .ok (.goto 4, 3) := by decide +kernel
theorem dX10_same_117 : decode cX10_same 117 = .ok (.iconst 0, 1) := by decide +kernel
theorem dX10_same_118 : decode cX10_same 118 = .ok (.ireturn, 1) := by decide +kernel
abbrev rmX10_same : Room := { frames := 1, cells := 0, slots := 0, locals := 22 }
theorem yd_X10_same : yX10_same.cls = RX10 ∧ yX10_same.cls ≠ "java/lang/invoke/MethodHandle" ∧ yX10_same.cls ≠ "java/lang/invoke/VarHandle" ∧ (parseMethodDescriptor yX10_same.desc).map (fun d => d.parameters.length) = some 2 := by decide +kernel
def fX10_same_L66_J102 (r : RS) (l1 : Int32) (l2 : Int32) (l4 : Int32) (s0 : Int32) : Option ((Int32 × Int32) ⊕ Int32) :=
  some (.inl (s0, (l4 + (1 : Int32))))
def fX10_same_L66 (r : RS) (l1 : Int32) (l2 : Int32) (l3 : Int32) (l4 : Int32) : Option ((Int32 × Int32) ⊕ Int32) :=
  (fX10_inputs r l1).bind fun q8 =>
  if q8 ≤ l4 then
    some (.inr l3)
  else
    if l3 = 0 then
      some (.inr l3)
    else
      (fX10_say0 r l1 l4).bind fun q9 =>
      (fX10_say0 r l2 l4).bind fun q10 =>
      if q9 = q10 then
        fX10_same_L66_J102 r l1 l2 l4 (1 : Int32)
      else
        fX10_same_L66_J102 r l1 l2 l4 (0 : Int32)
def fX10_same_J62 (r : RS) (l1 : Int32) (l2 : Int32) (s0 : Int32) : Option (Int32 × RS) :=
  (lpN (fun u => fX10_same_L66 r l1 l2 u.1 u.2) bigN (s0, (0 : Int32))).bind fun e11 =>
  if e11 = 0 then
    some ((0 : Int32), r)
  else
    some ((1 : Int32), r)
def fX10_same_J35 (r : RS) : Option (Int32 × RS) :=
  (fX10_meet r (-10 : Int32)).bind fun q4 =>
  some (q4.1, q4.2)
def fX10_same_J14 (r : RS) : Option (Int32 × RS) :=
  some ((-2 : Int32), r)
def fX10_same (r : RS) (a1 : Int32) (a2 : Int32) : Option (Int32 × RS) :=
  (fX10_isPlace a1).bind fun q1 =>
  if q1 = 0 then
    fX10_same_J14 r
  else
    (fX10_isPlace a2).bind fun q2 =>
    if q2 = 0 then
      fX10_same_J14 r
    else
      (aI 16 (r.2.1 0) a1).bind fun v3 =>
      if v3 = 0 then
        fX10_same_J35 r
      else
        (aI 16 (r.2.1 0) a2).bind fun v5 =>
        if v5 = 0 then
          fX10_same_J35 r
        else
          (aI 16 (r.2.1 0) a1).bind fun v6 =>
          (aI 16 (r.2.1 0) a2).bind fun v7 =>
          if v6 = v7 then
            fX10_same_J62 r a1 a2 (1 : Int32)
          else
            fX10_same_J62 r a1 a2 (0 : Int32)
set_option maxHeartbeats 4000000 in
set_option maxRecDepth 100000 in
theorem tX10_same_L66 {κ : KK} {p : Program} {l : Launch} {e : Env} {s : State} {m : MethodId} {args : Array Value} {below : List Frame} {meth : Method} {c : Code} (C : Cx κ p s m args meth c cX10_same 5 RX10 (some .int)) {o : Nat} {v : Option Value} {B' : Heap → Prop} {r : RS} {l1 : Int32} {l2 : Int32} {l3 : Int32} {l4 : Int32} {y : (Int32 × Int32) ⊕ Int32} (h : fX10_same_L66 r l1 l2 l3 l4 = some y) (kc : ∀ u, y = .inl u → GR κ p l e s m args below meth c rmX10_same 5 o v B' r 66 [(0, .ref o), (1, .int l1), (2, .int l2), (3, .int u.1), (4, .int u.2)] []) (kx : ∀ w, y = .inr w → GR κ p l e s m args below meth c rmX10_same 5 o v B' r 109 [(3, .int w)] []) : GR κ p l e s m args below meth c rmX10_same 5 o v B' r 66 [(0, .ref o), (1, .int l1), (2, .int l2), (3, .int l3), (4, .int l4)] [] := by
  have J102 : ∀ (l4 : Int32) (s0 : Int32), fX10_same_L66_J102 r l1 l2 l4 s0 = some y → GR κ p l e s m args below meth c rmX10_same 5 o v B' r 102 [(0, .ref o), (1, .int l1), (2, .int l2), (4, .int l4)] [.int s0] := by
    intro l4 s0 h
    unfold fX10_same_L66_J102 at h
    refine G_istore_n (pc' := 103) C dX10_same_102 [(3, .int s0), (0, .ref o), (1, .int l1), (2, .int l2), (4, .int l4)] (by decide) rfl rfl ?_
    refine G_iinc (pc' := 106) C dX10_same_103 4 rfl rfl [(4, .int (l4 + (1 : Int32))), (3, .int s0), (0, .ref o), (1, .int l1), (2, .int l2)] (by decide) rfl rfl ?_
    refine G_goto (tgt := 66) C dX10_same_106 (by decide) ?_
    exact G_sub [2, 3, 4, 1, 0] rfl (kc _ (Option.some.inj h).symm)
  unfold fX10_same_L66 at h
  refine G_iload (pc' := 68) C dX10_same_66 4 rfl rfl ?_
  refine G_aload_n (pc' := 69) C dX10_same_68 0 rfl rfl ?_
  refine G_iload_n (pc' := 70) C dX10_same_69 1 rfl rfl ?_
  obtain ⟨q8, hq8, h⟩ := ob h
  refine G_cV0 (pc' := 73) C dX10_same_70 (tX10_inputs κ l o r l1 q8 hq8) (wV tw_ml_X10_119 tw_im_X10_inputs tw_se_X10_X10_inputs tw_in_X10 tw_co_X10_inputs) yd_X10_inputs rfl fi_X10 (RB_rd 0 rfl) rfl rfl (by decide) rfl (Nat.le_of_ble_eq_true rfl) rfl rfl ?_
  refine G_icmp_ge (tgt := 109) (pc' := 76) C dX10_same_73 (by decide) rfl (fun hc => ?_) (fun hc => ?_)
  · replace h := z_ip hc h
    exact G_sub [3] rfl (kx _ (Option.some.inj h).symm)
  · replace h := z_in hc h
    refine G_iload_n (pc' := 77) C dX10_same_76 3 rfl rfl ?_
    refine G_if_eq (tgt := 109) (pc' := 80) C dX10_same_77 (by decide) rfl (fun hc => ?_) (fun hc => ?_)
    · replace h := z_ip hc h
      exact G_sub [3] rfl (kx _ (Option.some.inj h).symm)
    · replace h := z_in hc h
      refine G_aload_n (pc' := 81) C dX10_same_80 0 rfl rfl ?_
      refine G_iload_n (pc' := 82) C dX10_same_81 1 rfl rfl ?_
      refine G_iload (pc' := 84) C dX10_same_82 4 rfl rfl ?_
      obtain ⟨q9, hq9, h⟩ := ob h
      refine G_cV0 (pc' := 87) C dX10_same_84 (tX10_say0 κ l o r l1 l4 q9 hq9) (wV tw_ml_X10_123 tw_im_X10_say0 tw_se_X10_X10_say0 tw_in_X10 tw_co_X10_say0) yd_X10_say0 rfl fi_X10 (RB_rd 0 rfl) rfl rfl (by decide) rfl (Nat.le_of_ble_eq_true rfl) rfl rfl ?_
      refine G_aload_n (pc' := 88) C dX10_same_87 0 rfl rfl ?_
      refine G_iload_n (pc' := 89) C dX10_same_88 2 rfl rfl ?_
      refine G_iload (pc' := 91) C dX10_same_89 4 rfl rfl ?_
      obtain ⟨q10, hq10, h⟩ := ob h
      refine G_cV0 (pc' := 94) C dX10_same_91 (tX10_say0 κ l o r l2 l4 q10 hq10) (wV tw_ml_X10_123 tw_im_X10_say0 tw_se_X10_X10_say0 tw_in_X10 tw_co_X10_say0) yd_X10_say0 rfl fi_X10 (RB_rd 0 rfl) rfl rfl (by decide) rfl (Nat.le_of_ble_eq_true rfl) rfl rfl ?_
      refine G_icmp_ne (tgt := 101) (pc' := 97) C dX10_same_94 (by decide) rfl (fun hc => ?_) (fun hc => ?_)
      · replace h := z_in hc h
        refine G_iconst (pc' := 102) (v := (0 : Int32)) C dX10_same_101 (by decide) rfl ?_
        exact G_sub [0, 1, 2, 4] rfl (J102 l4 (0 : Int32) h)
      · replace h := z_ip hc h
        refine G_iconst (pc' := 98) (v := (1 : Int32)) C dX10_same_97 (by decide) rfl ?_
        refine G_goto (tgt := 102) C dX10_same_98 (by decide) ?_
        exact G_sub [0, 1, 2, 4] rfl (J102 l4 (1 : Int32) h)
set_option maxHeartbeats 4000000 in
set_option maxRecDepth 100000 in
theorem tX10_same (κ : KK) (l : Launch) (o : Nat) (r : RS) (a1 : Int32) (a2 : Int32) (q : Int32 × RS) (h : fX10_same r a1 a2 = some q) : MM κ l yX10_same cX10_same 5 (some .int) rmX10_same (RA o) [.ref o, .int a1, .int a2] (RB κ o r) (some (Value.int q.1)) (RB κ o q.2) := by
  refine MM.of (by decide +kernel) (Nat.le_of_ble_eq_true rfl) ?_
  intro p e s m below meth c C hnm
  have J62 : ∀ (r : RS) (l1 : Int32) (l2 : Int32) (s0 : Int32), fX10_same_J62 r l1 l2 s0 = some q → GR κ p l e s m ([.ref o, .int a1, .int a2] : List Value).toArray below meth c rmX10_same 5 o (some (Value.int q.1)) (RB κ o q.2) r 62 [(0, .ref o), (1, .int l1), (2, .int l2)] [.int s0] := by
    intro r l1 l2 s0 h
    unfold fX10_same_J62 at h
    refine G_istore_n (pc' := 63) C dX10_same_62 [(3, .int s0), (0, .ref o), (1, .int l1), (2, .int l2)] (by decide) rfl rfl ?_
    refine G_iconst (pc' := 64) (v := (0 : Int32)) C dX10_same_63 (by decide) rfl ?_
    refine G_istore (pc' := 66) C dX10_same_64 [(4, .int (0 : Int32)), (3, .int s0), (0, .ref o), (1, .int l1), (2, .int l2)] (by decide) rfl rfl ?_
    obtain ⟨e11, hle11, h⟩ := ob h
    refine G_sub (lv' := [(0, .ref o), (1, .int l1), (2, .int l2), (3, .int s0), (4, .int (0 : Int32))]) [2, 3, 4, 1, 0] rfl ?_
    refine lpN_ind (P := fun u => GR κ p l e s m ([.ref o, .int a1, .int a2] : List Value).toArray below meth c rmX10_same 5 o (some (Value.int q.1)) (RB κ o q.2) r 66 [(0, .ref o), (1, .int l1), (2, .int l2), (3, .int u.1), (4, .int u.2)] []) (X := fun w => GR κ p l e s m ([.ref o, .int a1, .int a2] : List Value).toArray below meth c rmX10_same 5 o (some (Value.int q.1)) (RB κ o q.2) r 109 [(3, .int w)] []) (fun u y hb kc kx => tX10_same_L66 C hb kc kx) _ _ _ hle11 ?_
    refine G_iload_n (pc' := 110) C dX10_same_109 0 rfl rfl ?_
    refine G_if_eq (tgt := 117) (pc' := 113) C dX10_same_110 (by decide) rfl (fun hc => ?_) (fun hc => ?_)
    · replace h := z_ip hc h
      refine G_iconst (pc' := 118) (v := (0 : Int32)) C dX10_same_117 (by decide) rfl ?_
      obtain rfl := Option.some.inj h
      exact G_iret C dX10_same_118 (fun _ h => h)
    · replace h := z_in hc h
      refine G_iconst (pc' := 114) (v := (1 : Int32)) C dX10_same_113 (by decide) rfl ?_
      refine G_goto (tgt := 118) C dX10_same_114 (by decide) ?_
      obtain rfl := Option.some.inj h
      exact G_iret C dX10_same_118 (fun _ h => h)
  have J35 : ∀ (r : RS), fX10_same_J35 r = some q → GR κ p l e s m ([.ref o, .int a1, .int a2] : List Value).toArray below meth c rmX10_same 5 o (some (Value.int q.1)) (RB κ o q.2) r 35 [(0, .ref o)] [] := by
    intro r h
    unfold fX10_same_J35 at h
    refine G_aload_n (pc' := 36) C dX10_same_35 0 rfl rfl ?_
    refine G_bipush (pc' := 38) (v := (-10 : Int32)) C dX10_same_36 (by decide) rfl ?_
    obtain ⟨q4, hq4, h⟩ := ob h
    refine G_cV0 (pc' := 41) C dX10_same_38 (tX10_meet κ l o r (-10 : Int32) q4 hq4) (wV tw_ml_X10_136 tw_im_X10_meet tw_se_X10_X10_meet tw_in_X10 tw_co_X10_meet) yd_X10_meet rfl fi_X10 (RB_rd 0 rfl) rfl rfl (by decide) rfl (Nat.le_of_ble_eq_true rfl) rfl rfl ?_
    obtain rfl := Option.some.inj h
    exact G_iret C dX10_same_41 (fun _ h => h)
  have J14 : ∀ (r : RS), fX10_same_J14 r = some q → GR κ p l e s m ([.ref o, .int a1, .int a2] : List Value).toArray below meth c rmX10_same 5 o (some (Value.int q.1)) (RB κ o q.2) r 14 [] [] := by
    intro r h
    unfold fX10_same_J14 at h
    refine G_bipush (pc' := 16) (v := (-2 : Int32)) C dX10_same_14 (by decide) rfl ?_
    obtain rfl := Option.some.inj h
    exact G_iret C dX10_same_16 (fun _ h => h)
  unfold fX10_same at h
  refine G_sub (lv' := [(0, .ref o), (1, .int a1), (2, .int a2)]) [0, 1, 2] rfl ?_
  refine G_iload_n (pc' := 1) C dX10_same_0 1 rfl rfl ?_
  obtain ⟨q1, hq1, h⟩ := ob h
  refine G_cS0 (pc' := 4) C dX10_same_1 (tX10_isPlace κ l (RA o) (RB κ o r) a1 q1 hq1) (wS tw_ml_X10_115 tw_st_X10_isPlace tw_co_X10_isPlace tw_in_X10) yd_X10_isPlace rfl rfl rfl (by decide) rfl (Nat.le_of_ble_eq_true rfl) rfl rfl ?_
  refine G_if_eq (tgt := 14) (pc' := 7) C dX10_same_4 (by decide) rfl (fun hc => ?_) (fun hc => ?_)
  · replace h := z_ip hc h
    exact G_sub [] rfl (J14 r h)
  · replace h := z_in hc h
    refine G_iload_n (pc' := 8) C dX10_same_7 2 rfl rfl ?_
    obtain ⟨q2, hq2, h⟩ := ob h
    refine G_cS0 (pc' := 11) C dX10_same_8 (tX10_isPlace κ l (RA o) (RB κ o r) a2 q2 hq2) (wS tw_ml_X10_115 tw_st_X10_isPlace tw_co_X10_isPlace tw_in_X10) yd_X10_isPlace rfl rfl rfl (by decide) rfl (Nat.le_of_ble_eq_true rfl) rfl rfl ?_
    refine G_if_ne (tgt := 17) (pc' := 14) C dX10_same_11 (by decide) rfl (fun hc => ?_) (fun hc => ?_)
    · replace h := z_in hc h
      refine G_aload_n (pc' := 18) C dX10_same_17 0 rfl rfl ?_
      refine R_g_bits (pc' := 21) C dX10_same_18 rfl ?_
      refine G_iload_n (pc' := 22) C dX10_same_21 1 rfl rfl ?_
      obtain ⟨v3, hv3, h⟩ := ob h
      refine R_l_bits (pc' := 23) C dX10_same_22 hv3 rfl ?_
      refine G_if_eq (tgt := 35) (pc' := 26) C dX10_same_23 (by decide) rfl (fun hc => ?_) (fun hc => ?_)
      · replace h := z_ip hc h
        exact G_sub [0] rfl (J35 r h)
      · replace h := z_in hc h
        refine G_aload_n (pc' := 27) C dX10_same_26 0 rfl rfl ?_
        refine R_g_bits (pc' := 30) C dX10_same_27 rfl ?_
        refine G_iload_n (pc' := 31) C dX10_same_30 2 rfl rfl ?_
        obtain ⟨v5, hv5, h⟩ := ob h
        refine R_l_bits (pc' := 32) C dX10_same_31 hv5 rfl ?_
        refine G_if_ne (tgt := 42) (pc' := 35) C dX10_same_32 (by decide) rfl (fun hc => ?_) (fun hc => ?_)
        · replace h := z_in hc h
          refine G_aload_n (pc' := 43) C dX10_same_42 0 rfl rfl ?_
          refine R_g_bits (pc' := 46) C dX10_same_43 rfl ?_
          refine G_iload_n (pc' := 47) C dX10_same_46 1 rfl rfl ?_
          obtain ⟨v6, hv6, h⟩ := ob h
          refine R_l_bits (pc' := 48) C dX10_same_47 hv6 rfl ?_
          refine G_aload_n (pc' := 49) C dX10_same_48 0 rfl rfl ?_
          refine R_g_bits (pc' := 52) C dX10_same_49 rfl ?_
          refine G_iload_n (pc' := 53) C dX10_same_52 2 rfl rfl ?_
          obtain ⟨v7, hv7, h⟩ := ob h
          refine R_l_bits (pc' := 54) C dX10_same_53 hv7 rfl ?_
          refine G_icmp_ne (tgt := 61) (pc' := 57) C dX10_same_54 (by decide) rfl (fun hc => ?_) (fun hc => ?_)
          · replace h := z_in hc h
            refine G_iconst (pc' := 62) (v := (0 : Int32)) C dX10_same_61 (by decide) rfl ?_
            exact G_sub [0, 1, 2] rfl (J62 r a1 a2 (0 : Int32) h)
          · replace h := z_ip hc h
            refine G_iconst (pc' := 58) (v := (1 : Int32)) C dX10_same_57 (by decide) rfl ?_
            refine G_goto (tgt := 62) C dX10_same_58 (by decide) ?_
            exact G_sub [0, 1, 2] rfl (J62 r a1 a2 (1 : Int32) h)
        · replace h := z_ip hc h
          exact G_sub [0] rfl (J35 r h)
    · replace h := z_ip hc h
      exact G_sub [] rfl (J14 r h)
theorem dX10_digit_0 : decode cX10_digit 0 = .ok (.iload_n 1, 1) := by decide +kernel
theorem dX10_digit_1 : decode cX10_digit 1 = .ok (.aload_n 0, 1) := by decide +kernel
theorem dX10_digit_2 : decode cX10_digit 2 = .ok (.getfield 51, 3) := by decide +kernel
theorem dX10_digit_5 : decode cX10_digit 5 = .ok (.iload_n 2, 1) := by decide +kernel
theorem dX10_digit_6 : decode cX10_digit 6 = .ok (.iaload, 1) := by decide +kernel
theorem dX10_digit_7 : decode cX10_digit 7 = .ok (.idiv, 1) := by decide +kernel
theorem dX10_digit_8 : decode cX10_digit 8 = .ok (.iconst 3, 1) := by decide +kernel
theorem dX10_digit_9 : decode cX10_digit 9 = .ok (.irem, 1) := by decide +kernel
theorem dX10_digit_10 : decode cX10_digit 10 = .ok (.ireturn, 1) := by decide +kernel
abbrev rmX10_digit : Room := { frames := 0, cells := 0, slots := 0, locals := 0 }
theorem yd_X10_digit : yX10_digit.cls = RX10 ∧ yX10_digit.cls ≠ "java/lang/invoke/MethodHandle" ∧ yX10_digit.cls ≠ "java/lang/invoke/VarHandle" ∧ (parseMethodDescriptor yX10_digit.desc).map (fun d => d.parameters.length) = some 2 := by decide +kernel
def fX10_digit (r : RS) (a1 : Int32) (a2 : Int32) : Option (Int32) :=
  (aI 9 (r.2.1 11) a2).bind fun v1 =>
  (dvI a1 v1).bind fun v2 =>
  some (v2 - v2 / (3 : Int32) * (3 : Int32))
set_option maxHeartbeats 4000000 in
set_option maxRecDepth 100000 in
theorem tX10_digit (κ : KK) (l : Launch) (o : Nat) (r : RS) (a1 : Int32) (a2 : Int32) (q : Int32) (h : fX10_digit r a1 a2 = some q) : MM κ l yX10_digit cX10_digit 3 (some .int) rmX10_digit (RA o) [.ref o, .int a1, .int a2] (RB κ o r) (some (Value.int q)) (RB κ o r) := by
  refine MM.of (by decide +kernel) (Nat.le_of_ble_eq_true rfl) ?_
  intro p e s m below meth c C hnm
  unfold fX10_digit at h
  refine G_sub (lv' := [(0, .ref o), (1, .int a1), (2, .int a2)]) [0, 1, 2] rfl ?_
  refine G_iload_n (pc' := 1) C dX10_digit_0 1 rfl rfl ?_
  refine G_aload_n (pc' := 2) C dX10_digit_1 0 rfl rfl ?_
  refine R_g_power (pc' := 5) C dX10_digit_2 rfl ?_
  refine G_iload_n (pc' := 6) C dX10_digit_5 2 rfl rfl ?_
  obtain ⟨v1, hv1, h⟩ := ob h
  refine R_l_power (pc' := 7) C dX10_digit_6 hv1 rfl ?_
  obtain ⟨v2, hv2, h⟩ := ob h
  refine G_idivV (pc' := 8) C dX10_digit_7 hv2 rfl ?_
  refine G_iconst (pc' := 9) (v := (3 : Int32)) C dX10_digit_8 (by decide) rfl ?_
  refine G_irem (pc' := 10) C dX10_digit_9 (by decide) rfl ?_
  obtain rfl := Option.some.inj h
  exact G_iret C dX10_digit_10 (fun _ h => h)
theorem dX10_isSettled_0 : decode cX10_isSettled 0 = .ok (.aload_n 0, 1) := by decide +kernel
theorem dX10_isSettled_1 : decode cX10_isSettled 1 = .ok (.getfield 54, 3) := by decide +kernel
theorem dX10_isSettled_4 : decode cX10_isSettled 4 = .ok (.iload_n 1, 1) := by decide +kernel
theorem dX10_isSettled_5 : decode cX10_isSettled 5 = .ok (.iaload, 1) := by decide +kernel
theorem dX10_isSettled_6 : decode cX10_isSettled 6 = .ok (.iconst 3, 1) := by decide +kernel
theorem dX10_isSettled_7 : decode cX10_isSettled 7 = .ok (.if_icmp .eq 7, 3) := by decide +kernel
theorem dX10_isSettled_10 : decode cX10_isSettled 10 = .ok (.iconst 1, 1) := by decide +kernel
theorem dX10_isSettled_11 : decode cX10_isSettled 11 = .ok (.goto 4, 3) := by decide +kernel
theorem dX10_isSettled_14 : decode cX10_isSettled 14 = .ok (.iconst 0, 1) := by decide +kernel
theorem dX10_isSettled_15 : decode cX10_isSettled 15 = .ok (.ireturn, 1) := by decide +kernel
abbrev rmX10_isSettled : Room := { frames := 0, cells := 0, slots := 0, locals := 0 }
theorem yd_X10_isSettled : yX10_isSettled.cls = RX10 ∧ yX10_isSettled.cls ≠ "java/lang/invoke/MethodHandle" ∧ yX10_isSettled.cls ≠ "java/lang/invoke/VarHandle" ∧ (parseMethodDescriptor yX10_isSettled.desc).map (fun d => d.parameters.length) = some 1 := by decide +kernel
def fX10_isSettled (r : RS) (a1 : Int32) : Option (Int32) :=
  (aI 6561 (r.2.1 12) a1).bind fun v1 =>
  if v1 = (3 : Int32) then
    some (0 : Int32)
  else
    some (1 : Int32)
set_option maxHeartbeats 4000000 in
set_option maxRecDepth 100000 in
theorem tX10_isSettled (κ : KK) (l : Launch) (o : Nat) (r : RS) (a1 : Int32) (q : Int32) (h : fX10_isSettled r a1 = some q) : MM κ l yX10_isSettled cX10_isSettled 2 (some .boolean) rmX10_isSettled (RA o) [.ref o, .int a1] (RB κ o r) (some (Value.int q)) (RB κ o r) := by
  refine MM.of (by decide +kernel) (Nat.le_of_ble_eq_true rfl) ?_
  intro p e s m below meth c C hnm
  unfold fX10_isSettled at h
  refine G_sub (lv' := [(0, .ref o), (1, .int a1)]) [0, 1] rfl ?_
  refine G_aload_n (pc' := 1) C dX10_isSettled_0 0 rfl rfl ?_
  refine R_g_has (pc' := 4) C dX10_isSettled_1 rfl ?_
  refine G_iload_n (pc' := 5) C dX10_isSettled_4 1 rfl rfl ?_
  obtain ⟨v1, hv1, h⟩ := ob h
  refine R_l_has (pc' := 6) C dX10_isSettled_5 hv1 rfl ?_
  refine G_iconst (pc' := 7) (v := (3 : Int32)) C dX10_isSettled_6 (by decide) rfl ?_
  refine G_icmp_eq (tgt := 14) (pc' := 10) C dX10_isSettled_7 (by decide) rfl (fun hc => ?_) (fun hc => ?_)
  · replace h := z_ip hc h
    refine G_iconst (pc' := 15) (v := (0 : Int32)) C dX10_isSettled_14 (by decide) rfl ?_
    obtain rfl := Option.some.inj h
    exact G_zret (v := (0 : Int32)) C rfl dX10_isSettled_15 (fun _ h => h)
  · replace h := z_in hc h
    refine G_iconst (pc' := 11) (v := (1 : Int32)) C dX10_isSettled_10 (by decide) rfl ?_
    refine G_goto (tgt := 15) C dX10_isSettled_11 (by decide) ?_
    obtain rfl := Option.some.inj h
    exact G_zret (v := (1 : Int32)) C rfl dX10_isSettled_15 (fun _ h => h)
theorem dX10_deeper_0 : decode cX10_deeper 0 = .ok (.aload_n 0, 1) := by decide +kernel
theorem dX10_deeper_1 : decode cX10_deeper 1 = .ok (.getfield 57, 3) := by decide +kernel
theorem dX10_deeper_4 : decode cX10_deeper 4 = .ok (.iload_n 1, 1) := by decide +kernel
theorem dX10_deeper_5 : decode cX10_deeper 5 = .ok (.iconst 2, 1) := by decide +kernel
theorem dX10_deeper_6 : decode cX10_deeper 6 = .ok (.aload_n 0, 1) := by decide +kernel
theorem dX10_deeper_7 : decode cX10_deeper 7 = .ok (.getfield 51, 3) := by decide +kernel
theorem dX10_deeper_10 : decode cX10_deeper 10 = .ok (.iload_n 2, 1) := by decide +kernel
theorem dX10_deeper_11 : decode cX10_deeper 11 = .ok (.iaload, 1) := by decide +kernel
theorem dX10_deeper_12 : decode cX10_deeper 12 = .ok (.imul, 1) := by decide +kernel
theorem dX10_deeper_13 : decode cX10_deeper 13 = .ok (.isub, 1) := by decide +kernel
theorem dX10_deeper_14 : decode cX10_deeper 14 = .ok (.iaload, 1) := by decide +kernel
theorem dX10_deeper_15 : decode cX10_deeper 15 = .ok (.istore_n 3, 1) := by decide +kernel
theorem dX10_deeper_16 : decode cX10_deeper 16 = .ok (.aload_n 0, 1) := by decide +kernel
theorem dX10_deeper_17 : decode cX10_deeper 17 = .ok (.getfield 57, 3) := by decide +kernel
theorem dX10_deeper_20 : decode cX10_deeper 20 = .ok (.iload_n 1, 1) := by decide +kernel
theorem dX10_deeper_21 : decode cX10_deeper 21 = .ok (.aload_n 0, 1) := by decide +kernel
theorem dX10_deeper_22 : decode cX10_deeper 22 = .ok (.getfield 51, 3) := by decide +kernel
theorem dX10_deeper_25 : decode cX10_deeper 25 = .ok (.iload_n 2, 1) := by decide +kernel
theorem dX10_deeper_26 : decode cX10_deeper 26 = .ok (.iaload, 1) := by decide +kernel
theorem dX10_deeper_27 : decode cX10_deeper 27 = .ok (.isub, 1) := by decide +kernel
theorem dX10_deeper_28 : decode cX10_deeper 28 = .ok (.iaload, 1) := by decide +kernel
theorem dX10_deeper_29 : decode cX10_deeper 29 = .ok (.istore 4, 2) := by decide +kernel
theorem dX10_deeper_31 : decode cX10_deeper 31 = .ok (.iload_n 3, 1) := by decide +kernel
theorem dX10_deeper_32 : decode cX10_deeper 32 = .ok (.iload 4, 2) := by decide +kernel
theorem dX10_deeper_34 : decode cX10_deeper 34 = .ok (.if_icmp .le 7, 3) := by decide +kernel
theorem dX10_deeper_37 : decode cX10_deeper 37 = .ok (.iload_n 3, 1) := by decide +kernel
theorem dX10_deeper_38 : decode cX10_deeper 38 = .ok (.goto 5, 3) := by decide +kernel
theorem dX10_deeper_41 : decode cX10_deeper 41 = .ok (.iload 4, 2) := by decide +kernel
theorem dX10_deeper_43 : decode cX10_deeper 43 = .ok (.ireturn, 1) := by decide +kernel
abbrev rmX10_deeper : Room := { frames := 0, cells := 0, slots := 0, locals := 0 }
theorem yd_X10_deeper : yX10_deeper.cls = RX10 ∧ yX10_deeper.cls ≠ "java/lang/invoke/MethodHandle" ∧ yX10_deeper.cls ≠ "java/lang/invoke/VarHandle" ∧ (parseMethodDescriptor yX10_deeper.desc).map (fun d => d.parameters.length) = some 2 := by decide +kernel
def fX10_deeper (r : RS) (a1 : Int32) (a2 : Int32) : Option (Int32) :=
  (aI 9 (r.2.1 11) a2).bind fun v1 =>
  (aI 6561 (r.2.1 13) (a1 - ((2 : Int32) * v1))).bind fun v2 =>
  (aI 9 (r.2.1 11) a2).bind fun v3 =>
  (aI 6561 (r.2.1 13) (a1 - v3)).bind fun v4 =>
  if v2 ≤ v4 then
    some v4
  else
    some v2
set_option maxHeartbeats 4000000 in
set_option maxRecDepth 100000 in
theorem tX10_deeper (κ : KK) (l : Launch) (o : Nat) (r : RS) (a1 : Int32) (a2 : Int32) (q : Int32) (h : fX10_deeper r a1 a2 = some q) : MM κ l yX10_deeper cX10_deeper 5 (some .int) rmX10_deeper (RA o) [.ref o, .int a1, .int a2] (RB κ o r) (some (Value.int q)) (RB κ o r) := by
  refine MM.of (by decide +kernel) (Nat.le_of_ble_eq_true rfl) ?_
  intro p e s m below meth c C hnm
  unfold fX10_deeper at h
  refine G_sub (lv' := [(0, .ref o), (1, .int a1), (2, .int a2)]) [0, 1, 2] rfl ?_
  refine G_aload_n (pc' := 1) C dX10_deeper_0 0 rfl rfl ?_
  refine R_g_depth (pc' := 4) C dX10_deeper_1 rfl ?_
  refine G_iload_n (pc' := 5) C dX10_deeper_4 1 rfl rfl ?_
  refine G_iconst (pc' := 6) (v := (2 : Int32)) C dX10_deeper_5 (by decide) rfl ?_
  refine G_aload_n (pc' := 7) C dX10_deeper_6 0 rfl rfl ?_
  refine R_g_power (pc' := 10) C dX10_deeper_7 rfl ?_
  refine G_iload_n (pc' := 11) C dX10_deeper_10 2 rfl rfl ?_
  obtain ⟨v1, hv1, h⟩ := ob h
  refine R_l_power (pc' := 12) C dX10_deeper_11 hv1 rfl ?_
  refine G_imul (pc' := 13) C dX10_deeper_12 rfl ?_
  refine G_isub (pc' := 14) C dX10_deeper_13 rfl ?_
  obtain ⟨v2, hv2, h⟩ := ob h
  refine R_l_depth (pc' := 15) C dX10_deeper_14 hv2 rfl ?_
  refine G_istore_n (pc' := 16) C dX10_deeper_15 [(3, .int v2), (0, .ref o), (1, .int a1), (2, .int a2)] (by decide) rfl rfl ?_
  refine G_aload_n (pc' := 17) C dX10_deeper_16 1 rfl rfl ?_
  refine R_g_depth (pc' := 20) C dX10_deeper_17 rfl ?_
  refine G_iload_n (pc' := 21) C dX10_deeper_20 2 rfl rfl ?_
  refine G_aload_n (pc' := 22) C dX10_deeper_21 1 rfl rfl ?_
  refine R_g_power (pc' := 25) C dX10_deeper_22 rfl ?_
  refine G_iload_n (pc' := 26) C dX10_deeper_25 3 rfl rfl ?_
  obtain ⟨v3, hv3, h⟩ := ob h
  refine R_l_power (pc' := 27) C dX10_deeper_26 hv3 rfl ?_
  refine G_isub (pc' := 28) C dX10_deeper_27 rfl ?_
  obtain ⟨v4, hv4, h⟩ := ob h
  refine R_l_depth (pc' := 29) C dX10_deeper_28 hv4 rfl ?_
  refine G_istore (pc' := 31) C dX10_deeper_29 [(4, .int v4), (3, .int v2), (0, .ref o), (1, .int a1), (2, .int a2)] (by decide) rfl rfl ?_
  refine G_iload_n (pc' := 32) C dX10_deeper_31 1 rfl rfl ?_
  refine G_iload (pc' := 34) C dX10_deeper_32 0 rfl rfl ?_
  refine G_icmp_le (tgt := 41) (pc' := 37) C dX10_deeper_34 (by decide) rfl (fun hc => ?_) (fun hc => ?_)
  · replace h := z_ip hc h
    refine G_iload (pc' := 43) C dX10_deeper_41 0 rfl rfl ?_
    obtain rfl := Option.some.inj h
    exact G_iret C dX10_deeper_43 (fun _ h => h)
  · replace h := z_in hc h
    refine G_iload_n (pc' := 38) C dX10_deeper_37 1 rfl rfl ?_
    refine G_goto (tgt := 43) C dX10_deeper_38 (by decide) ?_
    obtain rfl := Option.some.inj h
    exact G_iret C dX10_deeper_43 (fun _ h => h)
theorem dX10_sums_0 : decode cX10_sums 0 = .ok (.aload_n 0, 1) := by decide +kernel
theorem dX10_sums_1 : decode cX10_sums 1 = .ok (.getfield 63, 3) := by decide +kernel
theorem dX10_sums_4 : decode cX10_sums 4 = .ok (.iload_n 1, 1) := by decide +kernel
theorem dX10_sums_5 : decode cX10_sums 5 = .ok (.iaload, 1) := by decide +kernel
theorem dX10_sums_6 : decode cX10_sums 6 = .ok (.aload_n 0, 1) := by decide +kernel
theorem dX10_sums_7 : decode cX10_sums 7 = .ok (.getfield 60, 3) := by decide +kernel
theorem dX10_sums_10 : decode cX10_sums 10 = .ok (.iload_n 1, 1) := by decide +kernel
theorem dX10_sums_11 : decode cX10_sums 11 = .ok (.iconst 2, 1) := by decide +kernel
theorem dX10_sums_12 : decode cX10_sums 12 = .ok (.aload_n 0, 1) := by decide +kernel
theorem dX10_sums_13 : decode cX10_sums 13 = .ok (.getfield 51, 3) := by decide +kernel
theorem dX10_sums_16 : decode cX10_sums 16 = .ok (.iload_n 2, 1) := by decide +kernel
theorem dX10_sums_17 : decode cX10_sums 17 = .ok (.iaload, 1) := by decide +kernel
theorem dX10_sums_18 : decode cX10_sums 18 = .ok (.imul, 1) := by decide +kernel
theorem dX10_sums_19 : decode cX10_sums 19 = .ok (.isub, 1) := by decide +kernel
theorem dX10_sums_20 : decode cX10_sums 20 = .ok (.iaload, 1) := by decide +kernel
theorem dX10_sums_21 : decode cX10_sums 21 = .ok (.iadd, 1) := by decide +kernel
theorem dX10_sums_22 : decode cX10_sums 22 = .ok (.aload_n 0, 1) := by decide +kernel
theorem dX10_sums_23 : decode cX10_sums 23 = .ok (.getfield 60, 3) := by decide +kernel
theorem dX10_sums_26 : decode cX10_sums 26 = .ok (.iload_n 1, 1) := by decide +kernel
theorem dX10_sums_27 : decode cX10_sums 27 = .ok (.aload_n 0, 1) := by decide +kernel
theorem dX10_sums_28 : decode cX10_sums 28 = .ok (.getfield 51, 3) := by decide +kernel
theorem dX10_sums_31 : decode cX10_sums 31 = .ok (.iload_n 2, 1) := by decide +kernel
theorem dX10_sums_32 : decode cX10_sums 32 = .ok (.iaload, 1) := by decide +kernel
theorem dX10_sums_33 : decode cX10_sums 33 = .ok (.isub, 1) := by decide +kernel
theorem dX10_sums_34 : decode cX10_sums 34 = .ok (.iaload, 1) := by decide +kernel
theorem dX10_sums_35 : decode cX10_sums 35 = .ok (.iadd, 1) := by decide +kernel
theorem dX10_sums_36 : decode cX10_sums 36 = .ok (.ireturn, 1) := by decide +kernel
abbrev rmX10_sums : Room := { frames := 0, cells := 0, slots := 0, locals := 0 }
theorem yd_X10_sums : yX10_sums.cls = RX10 ∧ yX10_sums.cls ≠ "java/lang/invoke/MethodHandle" ∧ yX10_sums.cls ≠ "java/lang/invoke/VarHandle" ∧ (parseMethodDescriptor yX10_sums.desc).map (fun d => d.parameters.length) = some 2 := by decide +kernel
def fX10_sums (r : RS) (a1 : Int32) (a2 : Int32) : Option (Int32) :=
  (aI 6561 (r.2.1 15) a1).bind fun v1 =>
  (aI 9 (r.2.1 11) a2).bind fun v2 =>
  (aI 6561 (r.2.1 14) (a1 - ((2 : Int32) * v2))).bind fun v3 =>
  (aI 9 (r.2.1 11) a2).bind fun v4 =>
  (aI 6561 (r.2.1 14) (a1 - v4)).bind fun v5 =>
  some ((v1 + v3) + v5)
set_option maxHeartbeats 4000000 in
set_option maxRecDepth 100000 in
theorem tX10_sums (κ : KK) (l : Launch) (o : Nat) (r : RS) (a1 : Int32) (a2 : Int32) (q : Int32) (h : fX10_sums r a1 a2 = some q) : MM κ l yX10_sums cX10_sums 3 (some .int) rmX10_sums (RA o) [.ref o, .int a1, .int a2] (RB κ o r) (some (Value.int q)) (RB κ o r) := by
  refine MM.of (by decide +kernel) (Nat.le_of_ble_eq_true rfl) ?_
  intro p e s m below meth c C hnm
  unfold fX10_sums at h
  refine G_sub (lv' := [(0, .ref o), (1, .int a1), (2, .int a2)]) [0, 1, 2] rfl ?_
  refine G_aload_n (pc' := 1) C dX10_sums_0 0 rfl rfl ?_
  refine R_g_wide (pc' := 4) C dX10_sums_1 rfl ?_
  refine G_iload_n (pc' := 5) C dX10_sums_4 1 rfl rfl ?_
  obtain ⟨v1, hv1, h⟩ := ob h
  refine R_l_wide (pc' := 6) C dX10_sums_5 hv1 rfl ?_
  refine G_aload_n (pc' := 7) C dX10_sums_6 0 rfl rfl ?_
  refine R_g_sum (pc' := 10) C dX10_sums_7 rfl ?_
  refine G_iload_n (pc' := 11) C dX10_sums_10 1 rfl rfl ?_
  refine G_iconst (pc' := 12) (v := (2 : Int32)) C dX10_sums_11 (by decide) rfl ?_
  refine G_aload_n (pc' := 13) C dX10_sums_12 0 rfl rfl ?_
  refine R_g_power (pc' := 16) C dX10_sums_13 rfl ?_
  refine G_iload_n (pc' := 17) C dX10_sums_16 2 rfl rfl ?_
  obtain ⟨v2, hv2, h⟩ := ob h
  refine R_l_power (pc' := 18) C dX10_sums_17 hv2 rfl ?_
  refine G_imul (pc' := 19) C dX10_sums_18 rfl ?_
  refine G_isub (pc' := 20) C dX10_sums_19 rfl ?_
  obtain ⟨v3, hv3, h⟩ := ob h
  refine R_l_sum (pc' := 21) C dX10_sums_20 hv3 rfl ?_
  refine G_iadd (pc' := 22) C dX10_sums_21 rfl ?_
  refine G_aload_n (pc' := 23) C dX10_sums_22 0 rfl rfl ?_
  refine R_g_sum (pc' := 26) C dX10_sums_23 rfl ?_
  refine G_iload_n (pc' := 27) C dX10_sums_26 1 rfl rfl ?_
  refine G_aload_n (pc' := 28) C dX10_sums_27 0 rfl rfl ?_
  refine R_g_power (pc' := 31) C dX10_sums_28 rfl ?_
  refine G_iload_n (pc' := 32) C dX10_sums_31 2 rfl rfl ?_
  obtain ⟨v4, hv4, h⟩ := ob h
  refine R_l_power (pc' := 33) C dX10_sums_32 hv4 rfl ?_
  refine G_isub (pc' := 34) C dX10_sums_33 rfl ?_
  obtain ⟨v5, hv5, h⟩ := ob h
  refine R_l_sum (pc' := 35) C dX10_sums_34 hv5 rfl ?_
  refine G_iadd (pc' := 36) C dX10_sums_35 rfl ?_
  obtain rfl := Option.some.inj h
  exact G_iret C dX10_sums_36 (fun _ h => h)
