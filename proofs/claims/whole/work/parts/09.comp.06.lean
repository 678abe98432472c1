theorem dX5_parse_0 : decode cX5_parse 0 = .ok (.iload_n 2, 1) := by decide +kernel
theorem dX5_parse_1 : decode cX5_parse 1 = .ok (.iconst 1, 1) := by decide +kernel
theorem dX5_parse_2 : decode cX5_parse 2 = .ok (.isub, 1) := by decide +kernel
theorem dX5_parse_3 : decode cX5_parse 3 = .ok (.istore 4, 2) := by decide +kernel
theorem dX5_parse_5 : decode cX5_parse 5 = .ok (.iload 4, 2) := by decide +kernel
theorem dX5_parse_7 : decode cX5_parse 7 = .ok (.ifCond .lt 100, 3) := by decide +kernel
theorem dX5_parse_10 : decode cX5_parse 10 = .ok (.aload_n 1, 1) := by decide +kernel
theorem dX5_parse_11 : decode cX5_parse 11 = .ok (.iload 4, 2) := by decide +kernel
theorem dX5_parse_13 : decode cX5_parse 13 = .ok (.iaload, 1) := by decide +kernel
theorem dX5_parse_14 : decode cX5_parse 14 = .ok (.istore 5, 2) := by decide +kernel
theorem dX5_parse_16 : decode cX5_parse 16 = .ok (.aload_n 0, 1) := by decide +kernel
theorem dX5_parse_17 : decode cX5_parse 17 = .ok (.getfield 9, 3) := by decide +kernel
theorem dX5_parse_20 : decode cX5_parse 20 = .ok (.iload 4, 2) := by decide +kernel
theorem dX5_parse_22 : decode cX5_parse 22 = .ok (.iload 5, 2) := by decide +kernel
theorem dX5_parse_24 : decode cX5_parse 24 = .ok (.iastore, 1) := by decide +kernel
theorem dX5_parse_25 : decode cX5_parse 25 = .ok (.aload_n 0, 1) := by decide +kernel
theorem dX5_parse_26 : decode cX5_parse 26 = .ok (.getfield 18, 3) := by decide +kernel
theorem dX5_parse_29 : decode cX5_parse 29 = .ok (.iload 4, 2) := by decide +kernel
theorem dX5_parse_31 : decode cX5_parse 31 = .ok (.iload 4, 2) := by decide +kernel
theorem dX5_parse_33 : decode cX5_parse 33 = .ok (.iconst 1, 1) := by decide +kernel
theorem dX5_parse_34 : decode cX5_parse 34 = .ok (.iadd, 1) := by decide +kernel
theorem dX5_parse_35 : decode cX5_parse 35 = .ok (.iastore, 1) := by decide +kernel
theorem dX5_parse_36 : decode cX5_parse 36 = .ok (.iload 5, 2) := by decide +kernel
theorem dX5_parse_38 : decode cX5_parse 38 = .ok (.bipush 20, 2) := by decide +kernel
theorem dX5_parse_40 : decode cX5_parse 40 = .ok (.if_icmp .eq 61, 3) := by decide +kernel
theorem dX5_parse_43 : decode cX5_parse 43 = .ok (.iload 5, 2) := by decide +kernel
theorem dX5_parse_45 : decode cX5_parse 45 = .ok (.bipush 21, 2) := by decide +kernel
theorem dX5_parse_47 : decode cX5_parse 47 = .ok (.if_icmp .eq 54, 3) := by decide +kernel
theorem dX5_parse_50 : decode cX5_parse 50 = .ok (.iload 5, 2) := by decide +kernel
theorem dX5_parse_52 : decode cX5_parse 52 = .ok (.ifCond .lt 28, 3) := by decide +kernel
theorem dX5_parse_55 : decode cX5_parse 55 = .ok (.iload 5, 2) := by decide +kernel
theorem dX5_parse_57 : decode cX5_parse 57 = .ok (.iload_n 3, 1) := by decide +kernel
theorem dX5_parse_58 : decode cX5_parse 58 = .ok (.if_icmp .ge 22, 3) := by decide +kernel
theorem dX5_parse_61 : decode cX5_parse 61 = .ok (.iload 4, 2) := by decide +kernel
theorem dX5_parse_63 : decode cX5_parse 63 = .ok (.iconst 1, 1) := by decide +kernel
theorem dX5_parse_64 : decode cX5_parse 64 = .ok (.iadd, 1) := by decide +kernel
theorem dX5_parse_65 : decode cX5_parse 65 = .ok (.iload_n 2, 1) := by decide +kernel
theorem dX5_parse_66 : decode cX5_parse 66 = .ok (.if_icmp .ge 14, 3) := by decide +kernel
theorem dX5_parse_69 : decode cX5_parse 69 = .ok (.aload_n 0, 1) := by decide +kernel
theorem dX5_parse_70 : decode cX5_parse 70 = .ok (.iload 4, 2) := by decide +kernel
theorem dX5_parse_72 : decode cX5_parse 72 = .ok (.iconst 1, 1) := by decide +kernel
theorem dX5_parse_73 : decode cX5_parse 73 = .ok (.invokevirtual 48, 3) := by decide +kernel
theorem dX5_parse_76 : decode cX5_parse 76 = .ok (.iload_n 2, 1) := by decide +kernel
theorem dX5_parse_77 : decode cX5_parse 77 = .ok (.if_icmp .lt 5, 3) := by decide +kernel
theorem dX5_parse_80 : decode cX5_parse 80 = .ok (.iconst 0, 1) := by decide +kernel
theorem dX5_parse_81 : decode cX5_parse 81 = .ok (.ireturn, 1) := by decide +kernel
theorem dX5_parse_82 : decode cX5_parse 82 = .ok (.aload_n 0, 1) := by decide +kernel
theorem dX5_parse_83 : decode cX5_parse 83 = .ok (.getfield 18, 3) := by decide +kernel
theorem dX5_parse_86 : decode cX5_parse 86 = .ok (.iload 4, 2) := by decide +kernel
theorem dX5_parse_88 : decode cX5_parse 88 = .ok (.aload_n 0, 1) := by decide +kernel
theorem dX5_parse_89 : decode cX5_parse 89 = .ok (.getfield 18, 3) := by decide +kernel
theorem dX5_parse_92 : decode cX5_parse 92 = .ok (.aload_n 0, 1) := by decide +kernel
theorem dX5_parse_93 : decode cX5_parse 93 = .ok (.iload 4, 2) := by decide +kernel
theorem dX5_parse_95 : decode cX5_parse 95 = .ok (.iconst 1, 1) := by decide +kernel
theorem dX5_parse_96 : decode cX5_parse 96 = .ok (.invokevirtual 48, 3) := by decide +kernel
theorem dX5_parse_99 : decode cX5_parse 99 = .ok (.iaload, 1) := by decide +kernel
theorem dX5_parse_100 : decode cX5_parse 100 = .ok (.iastore, 1) := by decide +kernel
theorem dX5_parse_101 : decode cX5_parse 101 = .ok (.iinc 4 (-1), 3) := by decide +kernel
theorem dX5_parse_104 : decode cX5_parse 104 = .ok (.goto (-99), 3) := by decide +kernel
theorem dX5_parse_107 : decode cX5_parse 107 = .ok (.aload_n 0, 1) := by decide +kernel
theorem dX5_parse_108 : decode cX5_parse 108 = .ok (.iload_n 2, 1) := by decide +kernel
theorem dX5_parse_109 : decode cX5_parse 109 = .ok (.putfield 21, 3) := by decide +kernel
theorem dX5_parse_112 : decode cX5_parse 112 = .ok (.iload_n 2, 1) := by decide +kernel
theorem dX5_parse_113 : decode cX5_parse 113 = .ok (.ifCond .le 17, 3) := by decide +kernel
theorem dX5_parse_116 : decode cX5_parse 116 = .ok (.aload_n 0, 1) := by decide +kernel
theorem dX5_parse_117 : decode cX5_parse 117 = .ok (.getfield 18, 3) := by decide +kernel
theorem dX5_parse_120 : decode cX5_parse 120 = .ok (.iconst 0, 1) := by decide +kernel
theorem dX5_parse_121 : decode cX5_parse 121 = .ok (.iaload, 1) := by decide +kernel
theorem dX5_parse_122 : decode cX5_parse 122 = .ok (.iload_n 2, 1) := by decide +kernel
theorem dX5_parse_123 : decode cX5_parse 123 = .ok (.if_icmp .ne 7, 3) := by decide +kernel
theorem dX5_parse_126 : decode cX5_parse 126 = .ok (.iconst 1, 1) := by decide +kernel
theorem dX5_parse_127 : decode cX5_parse 127 = .ok (.goto 4, 3) := by decide +kernel
theorem dX5_parse_130 : decode cX5_parse 130 = .ok (.iconst 0, 1) := by decide +kernel
theorem dX5_parse_131 : decode cX5_parse 131 = .ok (.ireturn, 1) := by decide +kernel
theorem yd_X5_parse : yX5_parse.cls = RX5 ∧ yX5_parse.cls ≠ "java/lang/invoke/MethodHandle" ∧ yX5_parse.cls ≠ "java/lang/invoke/VarHandle" ∧ (parseMethodDescriptor yX5_parse.desc).map (fun d => d.parameters.length) = some 3 := by decide +kernel
abbrev rmX5_parse_12 : Room := { frames := 1, cells := 0, slots := 0, locals := 22 }
def fX5_parse_12_L5_J101 (o : Nat) (z : CS) (l2 : Int32) (l3 : Int32) (l4 : Int32) : Option ((Int32 × CS) ⊕ (CS ⊕ (Int32 × CS))) :=
  some (.inl ((l4 + (-1 : Int32)), z))
def fX5_parse_12_L5_J80 (o : Nat) (z : CS) : Option ((Int32 × CS) ⊕ (CS ⊕ (Int32 × CS))) :=
  some (.inr (.inr ((0 : Int32), z)))
def fX5_parse_12_L5 (o : Nat) (z : CS) (l2 : Int32) (l3 : Int32) (l4 : Int32) : Option ((Int32 × CS) ⊕ (CS ⊕ (Int32 × CS))) :=
  if l4 < 0 then
    some (.inr (.inl z))
  else
    (aI 100 (z.2.1 0) l4).bind fun v1 =>
    (csA z 6 100 l4 v1).bind fun z2 =>
    (csA z2 8 100 l4 (l4 + (1 : Int32))).bind fun z3 =>
    if v1 = (20 : Int32) then
      fX5_parse_12_L5_J101 o z3 l2 l3 l4
    else
      if v1 = (21 : Int32) then
        fX5_parse_12_L5_J101 o z3 l2 l3 l4
      else
        if v1 < 0 then
          fX5_parse_12_L5_J80 o z3
        else
          if l3 ≤ v1 then
            fX5_parse_12_L5_J80 o z3
          else
            if l2 ≤ (l4 + (1 : Int32)) then
              fX5_parse_12_L5_J80 o z3
            else
              (fX5_branch_12 o z3 l4 (1 : Int32)).bind fun q4 =>
              if q4 < l2 then
                (fX5_branch_12 o z3 l4 (1 : Int32)).bind fun q5 =>
                (aI 100 (z3.2.1 8) q5).bind fun v6 =>
                (csA z3 8 100 l4 v6).bind fun z7 =>
                fX5_parse_12_L5_J101 o z7 l2 l3 l4
              else
                fX5_parse_12_L5_J80 o z3
def fX5_parse_12_J130 (o : Nat) (z : CS) : Option (Int32 × CS) :=
  some ((0 : Int32), z)
def fX5_parse_12 (o : Nat) (z : CS) (a2 : Int32) (a3 : Int32) : Option (Int32 × CS) :=
  (lpN (fun u => fX5_parse_12_L5 o u.2 a2 a3 u.1) bigN ((a2 - (1 : Int32)), z)).bind fun e8 =>
  sel e8 (fun x9 =>
    if a2 ≤ 0 then
      fX5_parse_12_J130 o (cI x9 7 a2)
    else
      (aI 100 ((cI x9 7 a2).2.1 8) (0 : Int32)).bind fun v10 =>
      if v10 = a2 then
        some ((1 : Int32), (cI x9 7 a2))
      else
        fX5_parse_12_J130 o (cI x9 7 a2)
    ) (fun rt => some rt)
set_option maxHeartbeats 4000000 in
set_option maxRecDepth 100000 in
theorem tX5_parse_12_L5 {κ : KK} {p : Program} {l : Launch} {e : Env} {s : State} {m : MethodId} {args : Array Value} {below : List Frame} {meth : Method} {c : Code} (C : Cx κ p s m args meth c cX5_parse 6 RX5 (some .boolean)) {o : Nat} {v : Option Value} {B' : Heap → Prop} {z : CS} {l2 : Int32} {l3 : Int32} {l4 : Int32} {y : (Int32 × CS) ⊕ (CS ⊕ (Int32 × CS))} (h : fX5_parse_12_L5 o z l2 l3 l4 = some y) (kc : ∀ u, y = .inl u → GC κ p l e s m args below meth c rmX5_parse_12 6 o v B' 0 0 u.2 5 [(0, .ref (o + 12)), (1, .ref (o + 4)), (2, .int l2), (3, .int l3), (4, .int u.1)] []) (kx : ∀ w, y = .inr w → (∀ x, w = .inl x → GC κ p l e s m args below meth c rmX5_parse_12 6 o v B' 0 0 x 107 [(0, .ref (o + 12)), (2, .int l2)] []) ∧ (∀ rt, w = .inr rt → v = (some (Value.int rt.1)) ∧ B' = (CB κ o rt.2))) : GC κ p l e s m args below meth c rmX5_parse_12 6 o v B' 0 0 z 5 [(0, .ref (o + 12)), (1, .ref (o + 4)), (2, .int l2), (3, .int l3), (4, .int l4)] [] := by
  have J101 : ∀ (z : CS) (l4 : Int32), fX5_parse_12_L5_J101 o z l2 l3 l4 = some y → GC κ p l e s m args below meth c rmX5_parse_12 6 o v B' 0 0 z 101 [(0, .ref (o + 12)), (1, .ref (o + 4)), (2, .int l2), (3, .int l3), (4, .int l4)] [] := by
    intro z l4 h
    unfold fX5_parse_12_L5_J101 at h
    refine G_iinc (pc' := 104) C dX5_parse_101 4 rfl rfl [(4, .int (l4 + (-1 : Int32))), (0, .ref (o + 12)), (1, .ref (o + 4)), (2, .int l2), (3, .int l3)] (by decide) rfl rfl ?_
    refine G_goto (tgt := 5) C dX5_parse_104 (by decide) ?_
    exact G_sub (lv' := [(0, .ref (o + 12)), (1, .ref (o + 4)), (2, .int l2), (3, .int l3), (4, .int (l4 + (-1 : Int32)))]) [1, 2, 3, 4, 0] rfl (kc ((l4 + (-1 : Int32)), z) (Option.some.inj h).symm)
  have J80 : ∀ (z : CS), fX5_parse_12_L5_J80 o z = some y → GC κ p l e s m args below meth c rmX5_parse_12 6 o v B' 0 0 z 80 [] [] := by
    intro z h
    unfold fX5_parse_12_L5_J80 at h
    refine G_iconst (pc' := 81) (v := (0 : Int32)) C dX5_parse_80 (by decide) rfl ?_
    refine G_widen (k := rmX5_parse_12.cells) (n := rmX5_parse_12.slots) (by decide) (by decide) ?_
    obtain ⟨hv, hB⟩ := (kx _ (Option.some.inj h).symm).2 _ rfl
    subst hv
    subst hB
    exact G_zret (v := (0 : Int32)) C rfl dX5_parse_81 (fun _ h => h)
  unfold fX5_parse_12_L5 at h
  refine G_iload (pc' := 7) C dX5_parse_5 4 rfl rfl ?_
  refine G_if_lt (tgt := 107) (pc' := 10) C dX5_parse_7 (by decide) rfl (fun hc => ?_) (fun hc => ?_)
  · replace h := z_ip hc h
    exact G_sub (lv' := [(0, .ref (o + 12)), (2, .int l2)]) [0, 2] rfl ((kx _ (Option.some.inj h).symm).1 _ rfl)
  · replace h := z_in hc h
    refine G_aload_n (pc' := 11) C dX5_parse_10 1 rfl rfl ?_
    refine G_iload (pc' := 13) C dX5_parse_11 4 rfl rfl ?_
    replace h := ob h
    obtain ⟨v1, hv1, h⟩ := h
    refine G_ialdV (pc' := 14) C dX5_parse_13 (CB_rd 4 rfl) hv1 rfl ?_
    refine G_istore (pc' := 16) C dX5_parse_14 [(5, .int v1), (0, .ref (o + 12)), (1, .ref (o + 4)), (2, .int l2), (3, .int l3), (4, .int l4)] (by decide) rfl rfl ?_
    refine G_aload_n (pc' := 17) C dX5_parse_16 1 rfl rfl ?_
    refine G_get (pc' := 20) (k := 0) C fi_X5 dX5_parse_17 tw_fl_X5_9 rfl (by decide) (CB_rd 12 rfl) rfl rfl ?_
    refine G_iload (pc' := 22) C dX5_parse_20 5 rfl rfl ?_
    refine G_iload (pc' := 24) C dX5_parse_22 0 rfl rfl ?_
    replace h := ob h
    obtain ⟨z2, hz2, h⟩ := h
    refine C_s_13 (pc' := 25) C dX5_parse_24 hz2 rfl ?_
    refine G_aload_n (pc' := 26) C dX5_parse_25 1 rfl rfl ?_
    refine G_get (pc' := 29) (k := 2) C fi_X5 dX5_parse_26 tw_fl_X5_18 rfl (by decide) (CB_rd 12 rfl) rfl rfl ?_
    refine G_iload (pc' := 31) C dX5_parse_29 5 rfl rfl ?_
    refine G_iload (pc' := 33) C dX5_parse_31 5 rfl rfl ?_
    refine G_iconst (pc' := 34) (v := (1 : Int32)) C dX5_parse_33 (by decide) rfl ?_
    refine G_iadd (pc' := 35) C dX5_parse_34 rfl ?_
    replace h := ob h
    obtain ⟨z3, hz3, h⟩ := h
    refine C_s_15 (pc' := 36) C dX5_parse_35 hz3 rfl ?_
    refine G_iload (pc' := 38) C dX5_parse_36 0 rfl rfl ?_
    refine G_bipush (pc' := 40) (v := (20 : Int32)) C dX5_parse_38 (by decide) rfl ?_
    refine G_icmp_eq (tgt := 101) (pc' := 43) C dX5_parse_40 (by decide) rfl (fun hc => ?_) (fun hc => ?_)
    · replace h := z_ip hc h
      exact G_sub (lv' := [(0, .ref (o + 12)), (1, .ref (o + 4)), (2, .int l2), (3, .int l3), (4, .int l4)]) [1, 2, 3, 4, 5] rfl (J101 z3 l4 h)
    · replace h := z_in hc h
      refine G_iload (pc' := 45) C dX5_parse_43 0 rfl rfl ?_
      refine G_bipush (pc' := 47) (v := (21 : Int32)) C dX5_parse_45 (by decide) rfl ?_
      refine G_icmp_eq (tgt := 101) (pc' := 50) C dX5_parse_47 (by decide) rfl (fun hc => ?_) (fun hc => ?_)
      · replace h := z_ip hc h
        exact G_sub (lv' := [(0, .ref (o + 12)), (1, .ref (o + 4)), (2, .int l2), (3, .int l3), (4, .int l4)]) [1, 2, 3, 4, 5] rfl (J101 z3 l4 h)
      · replace h := z_in hc h
        refine G_iload (pc' := 52) C dX5_parse_50 0 rfl rfl ?_
        refine G_if_lt (tgt := 80) (pc' := 55) C dX5_parse_52 (by decide) rfl (fun hc => ?_) (fun hc => ?_)
        · replace h := z_ip hc h
          exact G_sub (lv' := []) [] rfl (J80 z3 h)
        · replace h := z_in hc h
          refine G_iload (pc' := 57) C dX5_parse_55 0 rfl rfl ?_
          refine G_iload_n (pc' := 58) C dX5_parse_57 4 rfl rfl ?_
          refine G_icmp_ge (tgt := 80) (pc' := 61) C dX5_parse_58 (by decide) rfl (fun hc => ?_) (fun hc => ?_)
          · replace h := z_ip hc h
            exact G_sub (lv' := []) [] rfl (J80 z3 h)
          · replace h := z_in hc h
            refine G_iload (pc' := 63) C dX5_parse_61 5 rfl rfl ?_
            refine G_iconst (pc' := 64) (v := (1 : Int32)) C dX5_parse_63 (by decide) rfl ?_
            refine G_iadd (pc' := 65) C dX5_parse_64 rfl ?_
            refine G_iload_n (pc' := 66) C dX5_parse_65 3 rfl rfl ?_
            refine G_icmp_ge (tgt := 80) (pc' := 69) C dX5_parse_66 (by decide) rfl (fun hc => ?_) (fun hc => ?_)
            · replace h := z_ip hc h
              exact G_sub (lv' := []) [] rfl (J80 z3 h)
            · replace h := z_in hc h
              refine G_aload_n (pc' := 70) C dX5_parse_69 1 rfl rfl ?_
              refine G_iload (pc' := 72) C dX5_parse_70 5 rfl rfl ?_
              refine G_iconst (pc' := 73) (v := (1 : Int32)) C dX5_parse_72 (by decide) rfl ?_
              replace h := ob h
              obtain ⟨q4, hq4, h⟩ := h
              refine G_cV0 (pc' := 76) C dX5_parse_73 (tX5_branch_12 κ l o z3 l4 (1 : Int32) q4 hq4) (wV tw_ml_X5_48 tw_im_X5_branch tw_se_X5_X5_branch tw_in_X5 tw_co_X5_branch) yd_X5_branch rfl fi_X5 (CB_rd 12 rfl) rfl rfl (by decide) rfl (Nat.le_of_ble_eq_true rfl) rfl rfl ?_
              refine G_iload_n (pc' := 77) C dX5_parse_76 3 rfl rfl ?_
              refine G_icmp_lt (tgt := 82) (pc' := 80) C dX5_parse_77 (by decide) rfl (fun hc => ?_) (fun hc => ?_)
              · replace h := z_ip hc h
                refine G_aload_n (pc' := 83) C dX5_parse_82 1 rfl rfl ?_
                refine G_get (pc' := 86) (k := 2) C fi_X5 dX5_parse_83 tw_fl_X5_18 rfl (by decide) (CB_rd 12 rfl) rfl rfl ?_
                refine G_iload (pc' := 88) C dX5_parse_86 5 rfl rfl ?_
                refine G_aload_n (pc' := 89) C dX5_parse_88 1 rfl rfl ?_
                refine G_get (pc' := 92) (k := 2) C fi_X5 dX5_parse_89 tw_fl_X5_18 rfl (by decide) (CB_rd 12 rfl) rfl rfl ?_
                refine G_aload_n (pc' := 93) C dX5_parse_92 1 rfl rfl ?_
                refine G_iload (pc' := 95) C dX5_parse_93 5 rfl rfl ?_
                refine G_iconst (pc' := 96) (v := (1 : Int32)) C dX5_parse_95 (by decide) rfl ?_
                replace h := ob h
                obtain ⟨q5, hq5, h⟩ := h
                refine G_cV0 (pc' := 99) C dX5_parse_96 (tX5_branch_12 κ l o z3 l4 (1 : Int32) q5 hq5) (wV tw_ml_X5_48 tw_im_X5_branch tw_se_X5_X5_branch tw_in_X5 tw_co_X5_branch) yd_X5_branch rfl fi_X5 (CB_rd 12 rfl) rfl rfl (by decide) rfl (Nat.le_of_ble_eq_true rfl) rfl rfl ?_
                replace h := ob h
                obtain ⟨v6, hv6, h⟩ := h
                refine G_ialdV (pc' := 100) C dX5_parse_99 (CB_rd 15 rfl) hv6 rfl ?_
                replace h := ob h
                obtain ⟨z7, hz7, h⟩ := h
                refine C_s_15 (pc' := 101) C dX5_parse_100 hz7 rfl ?_
                exact G_sub (lv' := [(0, .ref (o + 12)), (1, .ref (o + 4)), (2, .int l2), (3, .int l3), (4, .int l4)]) [1, 2, 3, 4, 5] rfl (J101 z7 l4 h)
              · replace h := z_in hc h
                exact G_sub (lv' := []) [] rfl (J80 z3 h)
set_option maxHeartbeats 4000000 in
set_option maxRecDepth 100000 in
theorem tX5_parse_12 (κ : KK) (l : Launch) (o : Nat) (z : CS) (a2 : Int32) (a3 : Int32) (q : Int32 × CS) (h : fX5_parse_12 o z a2 a3 = some q) : MM κ l yX5_parse cX5_parse 6 (some .boolean) rmX5_parse_12 (CA o) [.ref (o + 12), .ref (o + 4), .int a2, .int a3] (CB κ o z) (some (Value.int q.1)) (CB κ o q.2) := by
  refine MM.of (by decide +kernel) (Nat.le_of_ble_eq_true rfl) ?_
  intro p e s m below meth c C hnm
  have J130 : ∀ (z : CS), fX5_parse_12_J130 o z = some q → GC κ p l e s m ([.ref (o + 12), .ref (o + 4), .int a2, .int a3] : List Value).toArray below meth c rmX5_parse_12 6 o (some (Value.int q.1)) (CB κ o q.2) 0 0 z 130 [] [] := by
    intro z h
    unfold fX5_parse_12_J130 at h
    refine G_iconst (pc' := 131) (v := (0 : Int32)) C dX5_parse_130 (by decide) rfl ?_
    refine G_widen (k := rmX5_parse_12.cells) (n := rmX5_parse_12.slots) (by decide) (by decide) ?_
    obtain rfl := Option.some.inj h
    exact G_zret (v := (0 : Int32)) C rfl dX5_parse_131 (fun _ h => h)
  unfold fX5_parse_12 at h
  refine G_sub (lv' := [(0, .ref (o + 12)), (1, .ref (o + 4)), (2, .int a2), (3, .int a3)]) [0, 1, 2, 3] rfl ?_
  refine G_iload_n (pc' := 1) C dX5_parse_0 2 rfl rfl ?_
  refine G_iconst (pc' := 2) (v := (1 : Int32)) C dX5_parse_1 (by decide) rfl ?_
  refine G_isub (pc' := 3) C dX5_parse_2 rfl ?_
  refine G_istore (pc' := 5) C dX5_parse_3 [(4, .int (a2 - (1 : Int32))), (0, .ref (o + 12)), (1, .ref (o + 4)), (2, .int a2), (3, .int a3)] (by decide) rfl rfl ?_
  replace h := ob h
  obtain ⟨e8, hle8, h⟩ := h
  refine G_sub (lv' := [(0, .ref (o + 12)), (1, .ref (o + 4)), (2, .int a2), (3, .int a3), (4, .int (a2 - (1 : Int32)))]) [1, 2, 3, 4, 0] rfl ?_
  refine lpN_ind (body := fun u => fX5_parse_12_L5 o u.2 a2 a3 u.1) (P := fun u => GC κ p l e s m ([.ref (o + 12), .ref (o + 4), .int a2, .int a3] : List Value).toArray below meth c rmX5_parse_12 6 o (some (Value.int q.1)) (CB κ o q.2) 0 0 u.2 5 [(0, .ref (o + 12)), (1, .ref (o + 4)), (2, .int a2), (3, .int a3), (4, .int u.1)] []) (X := fun w => (∀ x, w = .inl x → GC κ p l e s m ([.ref (o + 12), .ref (o + 4), .int a2, .int a3] : List Value).toArray below meth c rmX5_parse_12 6 o (some (Value.int q.1)) (CB κ o q.2) 0 0 x 107 [(0, .ref (o + 12)), (2, .int a2)] []) ∧ (∀ rt, w = .inr rt → (some (Value.int q.1)) = (some (Value.int rt.1)) ∧ (CB κ o q.2) = (CB κ o rt.2))) (fun u y hb kc kx => tX5_parse_12_L5 C hb kc kx) _ _ _ hle8 ?_
  refine ⟨fun x9 hxx9 => ?_, fun rt hrt => ?_⟩
  · subst hxx9
    replace h := z_sl h
    refine G_aload_n (pc' := 108) C dX5_parse_107 0 rfl rfl ?_
    refine G_iload_n (pc' := 109) C dX5_parse_108 1 rfl rfl ?_
    refine G_put (pc' := 112) (k := 3) C fi_X5 dX5_parse_109 tw_fl_X5_21 rfl (by decide) rfl rfl rfl (Nat.le_of_ble_eq_true rfl) (CB_rd 12 rfl) (CB_wr (cI x9 7 a2) 12 (by decide) rfl rfl) rfl ?_
    refine G_iload_n (pc' := 113) C dX5_parse_112 1 rfl rfl ?_
    refine G_if_le (tgt := 130) (pc' := 116) C dX5_parse_113 (by decide) rfl (fun hc => ?_) (fun hc => ?_)
    · replace h := z_ip hc h
      exact G_sub (lv' := []) [] rfl (J130 (cI x9 7 a2) h)
    · replace h := z_in hc h
      refine G_aload_n (pc' := 117) C dX5_parse_116 0 rfl rfl ?_
      refine G_get (pc' := 120) (k := 2) C fi_X5 dX5_parse_117 tw_fl_X5_18 rfl (by decide) (CB_rd 12 rfl) rfl rfl ?_
      refine G_iconst (pc' := 121) (v := (0 : Int32)) C dX5_parse_120 (by decide) rfl ?_
      replace h := ob h
      obtain ⟨v10, hv10, h⟩ := h
      refine G_ialdV (pc' := 122) C dX5_parse_121 (CB_rd 15 rfl) hv10 rfl ?_
      refine G_iload_n (pc' := 123) C dX5_parse_122 1 rfl rfl ?_
      refine G_icmp_ne (tgt := 130) (pc' := 126) C dX5_parse_123 (by decide) rfl (fun hc => ?_) (fun hc => ?_)
      · replace h := z_in hc h
        exact G_sub (lv' := []) [] rfl (J130 (cI x9 7 a2) h)
      · replace h := z_ip hc h
        refine G_iconst (pc' := 127) (v := (1 : Int32)) C dX5_parse_126 (by decide) rfl ?_
        refine G_goto (tgt := 131) C dX5_parse_127 (by decide) ?_
        refine G_widen (k := rmX5_parse_12.cells) (n := rmX5_parse_12.slots) (by decide) (by decide) ?_
        obtain rfl := Option.some.inj h
        exact G_zret (v := (1 : Int32)) C rfl dX5_parse_131 (fun _ h => h)
  · subst hrt
    replace h := z_sr h
    obtain rfl := Option.some.inj h
    exact ⟨rfl, rfl⟩
abbrev rmX5_isLook_12 : Room := { frames := 0, cells := 0, slots := 0, locals := 0 }
def fX5_isLook_12 (o : Nat) (z : CS) (a1 : Int32) : Option (Int32) :=
  (aI 100 (z.2.1 6) a1).bind fun v1 =>
  if (20 : Int32) ≤ v1 then
    some (0 : Int32)
  else
    some (1 : Int32)
set_option maxHeartbeats 4000000 in
set_option maxRecDepth 100000 in
theorem tX5_isLook_12 (κ : KK) (l : Launch) (o : Nat) (z : CS) (a1 : Int32) (q : Int32) (h : fX5_isLook_12 o z a1 = some q) : MM κ l yX5_isLook cX5_isLook 2 (some .boolean) rmX5_isLook_12 (CA o) [.ref (o + 12), .int a1] (CB κ o z) (some (Value.int q)) (CB κ o z) := by
  refine MM.of (by decide +kernel) (Nat.le_of_ble_eq_true rfl) ?_
  intro p e s m below meth c C hnm
  unfold fX5_isLook_12 at h
  refine G_sub (lv' := [(0, .ref (o + 12)), (1, .int a1)]) [0, 1] rfl ?_
  refine G_aload_n (pc' := 1) C dX5_isLook_0 0 rfl rfl ?_
  refine G_get (pc' := 4) (k := 0) C fi_X5 dX5_isLook_1 tw_fl_X5_9 rfl (by decide) (CB_rd 12 rfl) rfl rfl ?_
  refine G_iload_n (pc' := 5) C dX5_isLook_4 1 rfl rfl ?_
  replace h := ob h
  obtain ⟨v1, hv1, h⟩ := h
  refine G_ialdV (pc' := 6) C dX5_isLook_5 (CB_rd 13 rfl) hv1 rfl ?_
  refine G_bipush (pc' := 8) (v := (20 : Int32)) C dX5_isLook_6 (by decide) rfl ?_
  refine G_icmp_ge (tgt := 15) (pc' := 11) C dX5_isLook_8 (by decide) rfl (fun hc => ?_) (fun hc => ?_)
  · replace h := z_ip hc h
    refine G_iconst (pc' := 16) (v := (0 : Int32)) C dX5_isLook_15 (by decide) rfl ?_
    obtain rfl := Option.some.inj h
    exact G_zret (v := (0 : Int32)) C rfl dX5_isLook_16 (fun _ h => h)
  · replace h := z_in hc h
    refine G_iconst (pc' := 12) (v := (1 : Int32)) C dX5_isLook_11 (by decide) rfl ?_
    refine G_goto (tgt := 16) C dX5_isLook_12 (by decide) ?_
    obtain rfl := Option.some.inj h
    exact G_zret (v := (1 : Int32)) C rfl dX5_isLook_16 (fun _ h => h)
abbrev rmX5_walk_12 : Room := { frames := 1, cells := 0, slots := 0, locals := 22 }
def fX5_walk_12_L4 (o : Nat) (z : CS) (l1 : Int32) (l2 : Int32) (l3 : Int32) : Option ((Int32 × Int32) ⊕ (Int32 × Int32)) :=
  if (z.1 7) ≤ l3 then
    some (.inr (l2, l3))
  else
    (fX5_isLook_12 o z l2).bind fun q1 =>
    if q1 = 0 then
      some (.inr (l2, l3))
    else
      (aI 100 (z.2.1 6) l2).bind fun v2 =>
      (fX5_branch_12 o z l2 ((l1 >>> (v2 &&& 31)) &&& (1 : Int32))).bind fun q3 =>
      some (.inl (q3, (l3 + (1 : Int32))))
def fX5_walk_12 (o : Nat) (z : CS) (a1 : Int32) : Option (Int32) :=
  (lpN (fun u => fX5_walk_12_L4 o z a1 u.1 u.2) bigN ((0 : Int32), (0 : Int32))).bind fun e4 =>
  (aI 100 (z.2.1 6) e4.1).bind fun v5 =>
  some ((v5 - (20 : Int32)) + ((10 : Int32) * e4.2))
set_option maxHeartbeats 4000000 in
set_option maxRecDepth 100000 in
theorem tX5_walk_12_L4 {κ : KK} {p : Program} {l : Launch} {e : Env} {s : State} {m : MethodId} {args : Array Value} {below : List Frame} {meth : Method} {c : Code} (C : Cx κ p s m args meth c cX5_walk 4 RX5 (some .int)) {o : Nat} {v : Option Value} {B' : Heap → Prop} {z : CS} {l1 : Int32} {l2 : Int32} {l3 : Int32} {y : (Int32 × Int32) ⊕ (Int32 × Int32)} (h : fX5_walk_12_L4 o z l1 l2 l3 = some y) (kc : ∀ u, y = .inl u → GC κ p l e s m args below meth c rmX5_walk_12 4 o v B' 0 0 z 4 [(0, .ref (o + 12)), (1, .int l1), (2, .int u.1), (3, .int u.2)] []) (kx : ∀ w, y = .inr w → GC κ p l e s m args below meth c rmX5_walk_12 4 o v B' 0 0 z 42 [(0, .ref (o + 12)), (2, .int w.1), (3, .int w.2)] []) : GC κ p l e s m args below meth c rmX5_walk_12 4 o v B' 0 0 z 4 [(0, .ref (o + 12)), (1, .int l1), (2, .int l2), (3, .int l3)] [] := by
  unfold fX5_walk_12_L4 at h
  refine G_iload_n (pc' := 5) C dX5_walk_4 3 rfl rfl ?_
  refine G_aload_n (pc' := 6) C dX5_walk_5 0 rfl rfl ?_
  refine G_get (pc' := 9) (k := 3) C fi_X5 dX5_walk_6 tw_fl_X5_21 rfl (by decide) (CB_rd 12 rfl) rfl rfl ?_
  refine G_icmp_ge (tgt := 42) (pc' := 12) C dX5_walk_9 (by decide) rfl (fun hc => ?_) (fun hc => ?_)
  · replace h := z_ip hc h
    exact G_sub (lv' := [(0, .ref (o + 12)), (2, .int l2), (3, .int l3)]) [0, 2, 3] rfl (kx _ (Option.some.inj h).symm)
  · replace h := z_in hc h
    refine G_aload_n (pc' := 13) C dX5_walk_12 0 rfl rfl ?_
    refine G_iload_n (pc' := 14) C dX5_walk_13 2 rfl rfl ?_
    replace h := ob h
    obtain ⟨q1, hq1, h⟩ := h
    refine G_cV0 (pc' := 17) C dX5_walk_14 (tX5_isLook_12 κ l o z l2 q1 hq1) (wV tw_ml_X5_52 tw_im_X5_isLook tw_se_X5_X5_isLook tw_in_X5 tw_co_X5_isLook) yd_X5_isLook rfl fi_X5 (CB_rd 12 rfl) rfl rfl (by decide) rfl (Nat.le_of_ble_eq_true rfl) rfl rfl ?_
    refine G_if_eq (tgt := 42) (pc' := 20) C dX5_walk_17 (by decide) rfl (fun hc => ?_) (fun hc => ?_)
    · replace h := z_ip hc h
      exact G_sub (lv' := [(0, .ref (o + 12)), (2, .int l2), (3, .int l3)]) [0, 2, 3] rfl (kx _ (Option.some.inj h).symm)
    · replace h := z_in hc h
      refine G_aload_n (pc' := 21) C dX5_walk_20 0 rfl rfl ?_
      refine G_iload_n (pc' := 22) C dX5_walk_21 2 rfl rfl ?_
      refine G_iload_n (pc' := 23) C dX5_walk_22 1 rfl rfl ?_
      refine G_aload_n (pc' := 24) C dX5_walk_23 0 rfl rfl ?_
      refine G_get (pc' := 27) (k := 0) C fi_X5 dX5_walk_24 tw_fl_X5_9 rfl (by decide) (CB_rd 12 rfl) rfl rfl ?_
      refine G_iload_n (pc' := 28) C dX5_walk_27 2 rfl rfl ?_
      replace h := ob h
      obtain ⟨v2, hv2, h⟩ := h
      refine G_ialdV (pc' := 29) C dX5_walk_28 (CB_rd 13 rfl) hv2 rfl ?_
      refine G_ishr (pc' := 30) C dX5_walk_29 rfl ?_
      refine G_iconst (pc' := 31) (v := (1 : Int32)) C dX5_walk_30 (by decide) rfl ?_
      refine G_iand (pc' := 32) C dX5_walk_31 rfl ?_
      replace h := ob h
      obtain ⟨q3, hq3, h⟩ := h
      refine G_cV0 (pc' := 35) C dX5_walk_32 (tX5_branch_12 κ l o z l2 ((l1 >>> (v2 &&& 31)) &&& (1 : Int32)) q3 hq3) (wV tw_ml_X5_48 tw_im_X5_branch tw_se_X5_X5_branch tw_in_X5 tw_co_X5_branch) yd_X5_branch rfl fi_X5 (CB_rd 12 rfl) rfl rfl (by decide) rfl (Nat.le_of_ble_eq_true rfl) rfl rfl ?_
      refine G_istore_n (pc' := 36) C dX5_walk_35 [(2, .int q3), (0, .ref (o + 12)), (1, .int l1), (3, .int l3)] (by decide) rfl rfl ?_
      refine G_iinc (pc' := 39) C dX5_walk_36 3 rfl rfl [(3, .int (l3 + (1 : Int32))), (2, .int q3), (0, .ref (o + 12)), (1, .int l1)] (by decide) rfl rfl ?_
      refine G_goto (tgt := 4) C dX5_walk_39 (by decide) ?_
      exact G_sub (lv' := [(0, .ref (o + 12)), (1, .int l1), (2, .int q3), (3, .int (l3 + (1 : Int32)))]) [2, 3, 1, 0] rfl (kc (q3, (l3 + (1 : Int32))) (Option.some.inj h).symm)
set_option maxHeartbeats 4000000 in
set_option maxRecDepth 100000 in
theorem tX5_walk_12 (κ : KK) (l : Launch) (o : Nat) (z : CS) (a1 : Int32) (q : Int32) (h : fX5_walk_12 o z a1 = some q) : MM κ l yX5_walk cX5_walk 4 (some .int) rmX5_walk_12 (CA o) [.ref (o + 12), .int a1] (CB κ o z) (some (Value.int q)) (CB κ o z) := by
  refine MM.of (by decide +kernel) (Nat.le_of_ble_eq_true rfl) ?_
  intro p e s m below meth c C hnm
  unfold fX5_walk_12 at h
  refine G_sub (lv' := [(0, .ref (o + 12)), (1, .int a1)]) [0, 1] rfl ?_
  refine G_iconst (pc' := 1) (v := (0 : Int32)) C dX5_walk_0 (by decide) rfl ?_
  refine G_istore_n (pc' := 2) C dX5_walk_1 [(2, .int (0 : Int32)), (0, .ref (o + 12)), (1, .int a1)] (by decide) rfl rfl ?_
  refine G_iconst (pc' := 3) (v := (0 : Int32)) C dX5_walk_2 (by decide) rfl ?_
  refine G_istore_n (pc' := 4) C dX5_walk_3 [(3, .int (0 : Int32)), (2, .int (0 : Int32)), (0, .ref (o + 12)), (1, .int a1)] (by decide) rfl rfl ?_
  replace h := ob h
  obtain ⟨e4, hle4, h⟩ := h
  refine G_sub (lv' := [(0, .ref (o + 12)), (1, .int a1), (2, .int (0 : Int32)), (3, .int (0 : Int32))]) [2, 3, 1, 0] rfl ?_
  refine lpN_ind (body := fun u => fX5_walk_12_L4 o z a1 u.1 u.2) (P := fun u => GC κ p l e s m ([.ref (o + 12), .int a1] : List Value).toArray below meth c rmX5_walk_12 4 o (some (Value.int q)) (CB κ o z) 0 0 z 4 [(0, .ref (o + 12)), (1, .int a1), (2, .int u.1), (3, .int u.2)] []) (X := fun w => GC κ p l e s m ([.ref (o + 12), .int a1] : List Value).toArray below meth c rmX5_walk_12 4 o (some (Value.int q)) (CB κ o z) 0 0 z 42 [(0, .ref (o + 12)), (2, .int w.1), (3, .int w.2)] []) (fun u y hb kc kx => tX5_walk_12_L4 C hb kc kx) _ _ _ hle4 ?_
  refine G_aload_n (pc' := 43) C dX5_walk_42 0 rfl rfl ?_
  refine G_get (pc' := 46) (k := 0) C fi_X5 dX5_walk_43 tw_fl_X5_9 rfl (by decide) (CB_rd 12 rfl) rfl rfl ?_
  refine G_iload_n (pc' := 47) C dX5_walk_46 1 rfl rfl ?_
  replace h := ob h
  obtain ⟨v5, hv5, h⟩ := h
  refine G_ialdV (pc' := 48) C dX5_walk_47 (CB_rd 13 rfl) hv5 rfl ?_
  refine G_bipush (pc' := 50) (v := (20 : Int32)) C dX5_walk_48 (by decide) rfl ?_
  refine G_isub (pc' := 51) C dX5_walk_50 rfl ?_
  refine G_bipush (pc' := 53) (v := (10 : Int32)) C dX5_walk_51 (by decide) rfl ?_
  refine G_iload_n (pc' := 54) C dX5_walk_53 2 rfl rfl ?_
  refine G_imul (pc' := 55) C dX5_walk_54 rfl ?_
  refine G_iadd (pc' := 56) C dX5_walk_55 rfl ?_
  obtain rfl := Option.some.inj h
  exact G_iret C dX5_walk_56 (fun _ h => h)
theorem dX9_leastMiss_0 : decode cX9_leastMiss 0 = .ok (.iconst 0, 1) := by decide +kernel
theorem dX9_leastMiss_1 : decode cX9_leastMiss 1 = .ok (.istore_n 2, 1) := by decide +kernel
theorem dX9_leastMiss_2 : decode cX9_leastMiss 2 = .ok (.iload_n 2, 1) := by decide +kernel
theorem dX9_leastMiss_3 : decode cX9_leastMiss 3 = .ok (.aload_n 1, 1) := by decide +kernel
theorem dX9_leastMiss_4 : decode cX9_leastMiss 4 = .ok (.getfield 155, 3) := by decide +kernel
theorem dX9_leastMiss_7 : decode cX9_leastMiss 7 = .ok (.arraylength, 1) := by decide +kernel
theorem dX9_leastMiss_8 : decode cX9_leastMiss 8 = .ok (.if_icmp .ge 41, 3) := by decide +kernel
theorem dX9_leastMiss_11 : decode cX9_leastMiss 11 = .ok (.aload_n 1, 1) := by decide +kernel
theorem dX9_leastMiss_12 : decode cX9_leastMiss 12 = .ok (.getfield 155, 3) := by decide +kernel
theorem dX9_leastMiss_15 : decode cX9_leastMiss 15 = .ok (.iload_n 2, 1) := by decide +kernel
theorem dX9_leastMiss_16 : decode cX9_leastMiss 16 = .ok (.baload, 1) := by decide +kernel
theorem dX9_leastMiss_17 : decode cX9_leastMiss 17 = .ok (.iconst 2, 1) := by decide +kernel
theorem dX9_leastMiss_18 : decode cX9_leastMiss 18 = .ok (.if_icmp .eq 25, 3) := by decide +kernel
theorem dX9_leastMiss_21 : decode cX9_leastMiss 21 = .ok (.aload_n 0, 1) := by decide +kernel
theorem dX9_leastMiss_22 : decode cX9_leastMiss 22 = .ok (.getfield 44, 3) := by decide +kernel
theorem dX9_leastMiss_25 : decode cX9_leastMiss 25 = .ok (.iload_n 2, 1) := by decide +kernel
theorem dX9_leastMiss_26 : decode cX9_leastMiss 26 = .ok (.invokevirtual 251, 3) := by decide +kernel
theorem dX9_leastMiss_29 : decode cX9_leastMiss 29 = .ok (.bipush 10, 2) := by decide +kernel
theorem dX9_leastMiss_31 : decode cX9_leastMiss 31 = .ok (.irem, 1) := by decide +kernel
theorem dX9_leastMiss_32 : decode cX9_leastMiss 32 = .ok (.aload_n 1, 1) := by decide +kernel
theorem dX9_leastMiss_33 : decode cX9_leastMiss 33 = .ok (.getfield 155, 3) := by decide +kernel
theorem dX9_leastMiss_36 : decode cX9_leastMiss 36 = .ok (.iload_n 2, 1) := by decide +kernel
theorem dX9_leastMiss_37 : decode cX9_leastMiss 37 = .ok (.baload, 1) := by decide +kernel
theorem dX9_leastMiss_38 : decode cX9_leastMiss 38 = .ok (.if_icmp .eq 5, 3) := by decide +kernel
theorem dX9_leastMiss_41 : decode cX9_leastMiss 41 = .ok (.iload_n 2, 1) := by decide +kernel
theorem dX9_leastMiss_42 : decode cX9_leastMiss 42 = .ok (.ireturn, 1) := by decide +kernel
theorem dX9_leastMiss_43 : decode cX9_leastMiss 43 = .ok (.iinc 2 1, 3) := by decide +kernel
theorem dX9_leastMiss_46 : decode cX9_leastMiss 46 = .ok (.goto (-44), 3) := by decide +kernel
theorem dX9_leastMiss_49 : decode cX9_leastMiss 49 = .ok (.iconst (-1), 1) := by decide +kernel
theorem dX9_leastMiss_50 : decode cX9_leastMiss 50 = .ok (.ireturn, 1) := by decide +kernel
theorem yd_X9_leastMiss : yX9_leastMiss.cls = RX9 ∧ yX9_leastMiss.cls ≠ "java/lang/invoke/MethodHandle" ∧ yX9_leastMiss.cls ≠ "java/lang/invoke/VarHandle" ∧ (parseMethodDescriptor yX9_leastMiss.desc).map (fun d => d.parameters.length) = some 1 := by decide +kernel
abbrev rmX9_leastMiss : Room := { frames := 2, cells := 0, slots := 0, locals := 45 }
def fX9_leastMiss_L2_J43 (o : Nat) (z : CS) (l1 : Nat) (l2 : Int32) : Option (Int32 ⊕ (Unit ⊕ Int32)) :=
  some (.inl (l2 + (1 : Int32)))
def fX9_leastMiss_L2 (o : Nat) (z : CS) (l1 : Nat) (l2 : Int32) : Option (Int32 ⊕ (Unit ⊕ Int32)) :=
  (dT z l1).bind fun t1 =>
  (t1.2.2.2).bind fun ad2 =>
  (lnB z ad2).bind fun v3 =>
  if v3 ≤ l2 then
    some (.inr (.inl ()))
  else
    (dT z l1).bind fun t4 =>
    (t4.2.2.2).bind fun ad5 =>
    (rdB z ad5 l2).bind fun v6 =>
    if v6 = (2 : Int32) then
      fX9_leastMiss_L2_J43 o z l1 l2
    else
      (fX5_walk_12 o z l2).bind fun q7 =>
      (dT z l1).bind fun t8 =>
      (t8.2.2.2).bind fun ad9 =>
      (rdB z ad9 l2).bind fun v10 =>
      if (q7 - q7 / (10 : Int32) * (10 : Int32)) = v10 then
        fX9_leastMiss_L2_J43 o z l1 l2
      else
        some (.inr (.inr l2))
def fX9_leastMiss (o : Nat) (z : CS) (a1 : Nat) : Option (Int32) :=
  (lpN (fun u => fX9_leastMiss_L2 o z a1 u) bigN (0 : Int32)).bind fun e11 =>
  sel e11 (fun x12 =>
    some (-1 : Int32)
    ) (fun rt => some rt)
set_option maxHeartbeats 4000000 in
set_option maxRecDepth 100000 in
theorem tX9_leastMiss_L2 {κ : KK} {p : Program} {l : Launch} {e : Env} {s : State} {m : MethodId} {args : Array Value} {below : List Frame} {meth : Method} {c : Code} (C : Cx κ p s m args meth c cX9_leastMiss 3 RX9 (some .int)) {o : Nat} {v : Option Value} {B' : Heap → Prop} {z : CS} {l1 : Nat} {l2 : Int32} {y : Int32 ⊕ (Unit ⊕ Int32)} (h : fX9_leastMiss_L2 o z l1 l2 = some y) (kc : ∀ u, y = .inl u → GC κ p l e s m args below meth c rmX9_leastMiss 3 o v B' 0 0 z 2 [(0, .ref o), (1, .ref l1), (2, .int u)] []) (kx : ∀ w, y = .inr w → (∀ x, w = .inl x → GC κ p l e s m args below meth c rmX9_leastMiss 3 o v B' 0 0 z 49 [] []) ∧ (∀ rt, w = .inr rt → v = (some (Value.int rt)) ∧ B' = (CB κ o z))) : GC κ p l e s m args below meth c rmX9_leastMiss 3 o v B' 0 0 z 2 [(0, .ref o), (1, .ref l1), (2, .int l2)] [] := by
  have J43 : ∀ (l2 : Int32), fX9_leastMiss_L2_J43 o z l1 l2 = some y → GC κ p l e s m args below meth c rmX9_leastMiss 3 o v B' 0 0 z 43 [(0, .ref o), (1, .ref l1), (2, .int l2)] [] := by
    intro l2 h
    unfold fX9_leastMiss_L2_J43 at h
    refine G_iinc (pc' := 46) C dX9_leastMiss_43 2 rfl rfl [(2, .int (l2 + (1 : Int32))), (0, .ref o), (1, .ref l1)] (by decide) rfl rfl ?_
    refine G_goto (tgt := 2) C dX9_leastMiss_46 (by decide) ?_
    exact G_sub (lv' := [(0, .ref o), (1, .ref l1), (2, .int (l2 + (1 : Int32)))]) [1, 2, 0] rfl (kc (l2 + (1 : Int32)) (Option.some.inj h).symm)
  unfold fX9_leastMiss_L2 at h
  refine G_iload_n (pc' := 3) C dX9_leastMiss_2 2 rfl rfl ?_
  refine G_aload_n (pc' := 4) C dX9_leastMiss_3 1 rfl rfl ?_
  replace h := ob h
  obtain ⟨t1, ht1, h⟩ := h
  refine G_get (pc' := 7) (k := 3) C fi_X8 dX9_leastMiss_4 tw_fl_X9_155 rfl (by decide) (CB_T ht1) rfl rfl ?_
  replace h := ob h
  obtain ⟨ad2, had2, h⟩ := h
  rw [had2]
  replace h := ob h
  obtain ⟨v3, hv3, h⟩ := h
  refine P_lenB (pc' := 8) C dX9_leastMiss_7 hv3 rfl ?_
  refine G_icmp_ge (tgt := 49) (pc' := 11) C dX9_leastMiss_8 (by decide) rfl (fun hc => ?_) (fun hc => ?_)
  · replace h := z_ip hc h
    exact G_sub (lv' := []) [] rfl ((kx _ (Option.some.inj h).symm).1 _ rfl)
  · replace h := z_in hc h
    refine G_aload_n (pc' := 12) C dX9_leastMiss_11 1 rfl rfl ?_
    replace h := ob h
    obtain ⟨t4, ht4, h⟩ := h
    refine G_get (pc' := 15) (k := 3) C fi_X8 dX9_leastMiss_12 tw_fl_X9_155 rfl (by decide) (CB_T ht4) rfl rfl ?_
    refine G_iload_n (pc' := 16) C dX9_leastMiss_15 2 rfl rfl ?_
    replace h := ob h
    obtain ⟨ad5, had5, h⟩ := h
    rw [had5]
    replace h := ob h
    obtain ⟨v6, hv6, h⟩ := h
    refine P_bald (pc' := 17) C dX9_leastMiss_16 hv6 rfl ?_
    refine G_iconst (pc' := 18) (v := (2 : Int32)) C dX9_leastMiss_17 (by decide) rfl ?_
    refine G_icmp_eq (tgt := 43) (pc' := 21) C dX9_leastMiss_18 (by decide) rfl (fun hc => ?_) (fun hc => ?_)
    · replace h := z_ip hc h
      exact G_sub (lv' := [(0, .ref o), (1, .ref l1), (2, .int l2)]) [0, 1, 2] rfl (J43 l2 h)
    · replace h := z_in hc h
      refine G_aload_n (pc' := 22) C dX9_leastMiss_21 0 rfl rfl ?_
      refine G_get (pc' := 25) (k := 6) C fi_X9 dX9_leastMiss_22 tw_fl_X9_44 rfl (by decide) (CB_rd 0 rfl) rfl rfl ?_
      refine G_iload_n (pc' := 26) C dX9_leastMiss_25 2 rfl rfl ?_
      replace h := ob h
      obtain ⟨q7, hq7, h⟩ := h
      refine G_cV0 (pc' := 29) C dX9_leastMiss_26 (tX5_walk_12 κ l o z l2 q7 hq7) (wV tw_ml_X9_251 tw_im_X5_walk tw_se_X5_X5_walk tw_in_X5 tw_co_X5_walk) yd_X5_walk rfl fi_X5 (CB_rd 12 rfl) rfl rfl (by decide) rfl (Nat.le_of_ble_eq_true rfl) rfl rfl ?_
      refine G_bipush (pc' := 31) (v := (10 : Int32)) C dX9_leastMiss_29 (by decide) rfl ?_
      refine G_irem (pc' := 32) C dX9_leastMiss_31 (by decide) rfl ?_
      refine G_aload_n (pc' := 33) C dX9_leastMiss_32 1 rfl rfl ?_
      replace h := ob h
      obtain ⟨t8, ht8, h⟩ := h
      refine G_get (pc' := 36) (k := 3) C fi_X8 dX9_leastMiss_33 tw_fl_X9_155 rfl (by decide) (CB_T ht8) rfl rfl ?_
      refine G_iload_n (pc' := 37) C dX9_leastMiss_36 2 rfl rfl ?_
      replace h := ob h
      obtain ⟨ad9, had9, h⟩ := h
      rw [had9]
      replace h := ob h
      obtain ⟨v10, hv10, h⟩ := h
      refine P_bald (pc' := 38) C dX9_leastMiss_37 hv10 rfl ?_
      refine G_icmp_eq (tgt := 43) (pc' := 41) C dX9_leastMiss_38 (by decide) rfl (fun hc => ?_) (fun hc => ?_)
      · replace h := z_ip hc h
        exact G_sub (lv' := [(0, .ref o), (1, .ref l1), (2, .int l2)]) [0, 1, 2] rfl (J43 l2 h)
      · replace h := z_in hc h
        refine G_iload_n (pc' := 42) C dX9_leastMiss_41 2 rfl rfl ?_
        obtain ⟨hv, hB⟩ := (kx _ (Option.some.inj h).symm).2 _ rfl
        subst hv
        subst hB
        exact G_iret C dX9_leastMiss_42 (fun _ h => h)
set_option maxHeartbeats 4000000 in
set_option maxRecDepth 100000 in
theorem tX9_leastMiss (κ : KK) (l : Launch) (o : Nat) (z : CS) (a1 : Nat) (q : Int32) (h : fX9_leastMiss o z a1 = some q) : MM κ l yX9_leastMiss cX9_leastMiss 3 (some .int) rmX9_leastMiss (CA o) [.ref o, .ref a1] (CB κ o z) (some (Value.int q)) (CB κ o z) := by
  refine MM.of (by decide +kernel) (Nat.le_of_ble_eq_true rfl) ?_
  intro p e s m below meth c C hnm
  unfold fX9_leastMiss at h
  refine G_sub (lv' := [(0, .ref o), (1, .ref a1)]) [0, 1] rfl ?_
  refine G_iconst (pc' := 1) (v := (0 : Int32)) C dX9_leastMiss_0 (by decide) rfl ?_
  refine G_istore_n (pc' := 2) C dX9_leastMiss_1 [(2, .int (0 : Int32)), (0, .ref o), (1, .ref a1)] (by decide) rfl rfl ?_
  replace h := ob h
  obtain ⟨e11, hle11, h⟩ := h
  refine G_sub (lv' := [(0, .ref o), (1, .ref a1), (2, .int (0 : Int32))]) [1, 2, 0] rfl ?_
  refine lpN_ind (body := fun u => fX9_leastMiss_L2 o z a1 u) (P := fun u => GC κ p l e s m ([.ref o, .ref a1] : List Value).toArray below meth c rmX9_leastMiss 3 o (some (Value.int q)) (CB κ o z) 0 0 z 2 [(0, .ref o), (1, .ref a1), (2, .int u)] []) (X := fun w => (∀ x, w = .inl x → GC κ p l e s m ([.ref o, .ref a1] : List Value).toArray below meth c rmX9_leastMiss 3 o (some (Value.int q)) (CB κ o z) 0 0 z 49 [] []) ∧ (∀ rt, w = .inr rt → (some (Value.int q)) = (some (Value.int rt)) ∧ (CB κ o z) = (CB κ o z))) (fun u y hb kc kx => tX9_leastMiss_L2 C hb kc kx) _ _ _ hle11 ?_
  refine ⟨fun x12 hxx12 => ?_, fun rt hrt => ?_⟩
  · subst hxx12
    replace h := z_sl h
    refine G_iconst (pc' := 50) (v := (-1 : Int32)) C dX9_leastMiss_49 (by decide) rfl ?_
    obtain rfl := Option.some.inj h
    exact G_iret C dX9_leastMiss_50 (fun _ h => h)
  · subst hrt
    replace h := z_sr h
    obtain rfl := Option.some.inj h
    exact ⟨rfl, rfl⟩
theorem dX9_check_0 : decode cX9_check 0 = .ok (.aload_n 0, 1) := by decide +kernel
theorem dX9_check_1 : decode cX9_check 1 = .ok (.iload_n 1, 1) := by decide +kernel
theorem dX9_check_2 : decode cX9_check 2 = .ok (.invokevirtual 145, 3) := by decide +kernel
theorem dX9_check_5 : decode cX9_check 5 = .ok (.istore_n 2, 1) := by decide +kernel
theorem dX9_check_6 : decode cX9_check 6 = .ok (.iload_n 2, 1) := by decide +kernel
theorem dX9_check_7 : decode cX9_check 7 = .ok (.ifCond .ne 45, 3) := by decide +kernel
theorem dX9_check_10 : decode cX9_check 10 = .ok (.aload_n 0, 1) := by decide +kernel
theorem dX9_check_11 : decode cX9_check 11 = .ok (.getfield 17, 3) := by decide +kernel
theorem dX9_check_14 : decode cX9_check 14 = .ok (.iload_n 1, 1) := by decide +kernel
theorem dX9_check_15 : decode cX9_check 15 = .ok (.aaload, 1) := by decide +kernel
theorem dX9_check_16 : decode cX9_check 16 = .ok (.astore_n 3, 1) := by decide +kernel
theorem dX9_check_17 : decode cX9_check 17 = .ok (.aload_n 0, 1) := by decide +kernel
theorem dX9_check_18 : decode cX9_check 18 = .ok (.getfield 44, 3) := by decide +kernel
theorem dX9_check_21 : decode cX9_check 21 = .ok (.aload_n 0, 1) := by decide +kernel
theorem dX9_check_22 : decode cX9_check 22 = .ok (.getfield 24, 3) := by decide +kernel
theorem dX9_check_25 : decode cX9_check 25 = .ok (.aload_n 0, 1) := by decide +kernel
theorem dX9_check_26 : decode cX9_check 26 = .ok (.getfield 86, 3) := by decide +kernel
theorem dX9_check_29 : decode cX9_check 29 = .ok (.aload_n 3, 1) := by decide +kernel
theorem dX9_check_30 : decode cX9_check 30 = .ok (.getfield 152, 3) := by decide +kernel
theorem dX9_check_33 : decode cX9_check 33 = .ok (.invokevirtual 254, 3) := by decide +kernel
theorem dX9_check_36 : decode cX9_check 36 = .ok (.ifCond .eq 13, 3) := by decide +kernel
theorem dX9_check_39 : decode cX9_check 39 = .ok (.aload_n 0, 1) := by decide +kernel
theorem dX9_check_40 : decode cX9_check 40 = .ok (.aload_n 3, 1) := by decide +kernel
theorem dX9_check_41 : decode cX9_check 41 = .ok (.invokevirtual 258, 3) := by decide +kernel
theorem dX9_check_44 : decode cX9_check 44 = .ok (.iconst 1, 1) := by decide +kernel
theorem dX9_check_45 : decode cX9_check 45 = .ok (.iadd, 1) := by decide +kernel
theorem dX9_check_46 : decode cX9_check 46 = .ok (.goto 5, 3) := by decide +kernel
theorem dX9_check_49 : decode cX9_check 49 = .ok (.bipush (-3), 2) := by decide +kernel
theorem dX9_check_51 : decode cX9_check 51 = .ok (.istore_n 2, 1) := by decide +kernel
theorem dX9_check_52 : decode cX9_check 52 = .ok (.aload_n 0, 1) := by decide +kernel
theorem dX9_check_53 : decode cX9_check 53 = .ok (.iconst 0, 1) := by decide +kernel
theorem dX9_check_54 : decode cX9_check 54 = .ok (.putfield 86, 3) := by decide +kernel
theorem dX9_check_57 : decode cX9_check 57 = .ok (.iload_n 2, 1) := by decide +kernel
theorem dX9_check_58 : decode cX9_check 58 = .ok (.ireturn, 1) := by decide +kernel
theorem yd_X9_check : yX9_check.cls = RX9 ∧ yX9_check.cls ≠ "java/lang/invoke/MethodHandle" ∧ yX9_check.cls ≠ "java/lang/invoke/VarHandle" ∧ (parseMethodDescriptor yX9_check.desc).map (fun d => d.parameters.length) = some 1 := by decide +kernel
abbrev rmX9_check : Room := { frames := 3, cells := 0, slots := 0, locals := 67 }
def fX9_check_J52 (o : Nat) (z : CS) (l2 : Int32) : Option (Int32 × CS) :=
  some (l2, (cI z 1 (0 : Int32)))
def fX9_check_J51 (o : Nat) (z : CS) (s0 : Int32) : Option (Int32 × CS) :=
  fX9_check_J52 o z s0
def fX9_check (o : Nat) (z : CS) (a1 : Int32) : Option (Int32 × CS) :=
  (fX9_findingOfTask o z a1).bind fun q1 =>
  if q1.1 = 0 then
    (aQ 8 (q1.2.2.2.1 1) a1).bind fun v2 =>
    (v2).bind fun ad3 =>
    (dT q1.2 ad3).bind fun t4 =>
    (fX5_parse_12 o q1.2 (q1.2.1 1) t4.2.1).bind fun q5 =>
    if q5.1 = 0 then
      fX9_check_J51 o q5.2 (-3 : Int32)
    else
      (fX9_leastMiss o q5.2 ad3).bind fun q6 =>
      fX9_check_J51 o q5.2 (q6 + (1 : Int32))
  else
    fX9_check_J52 o q1.2 q1.1
set_option maxHeartbeats 4000000 in
set_option maxRecDepth 100000 in
theorem tX9_check (κ : KK) (l : Launch) (o : Nat) (z : CS) (a1 : Int32) (q : Int32 × CS) (h : fX9_check o z a1 = some q) : MM κ l yX9_check cX9_check 4 (some .int) rmX9_check (CA o) [.ref o, .int a1] (CB κ o z) (some (Value.int q.1)) (CB κ o q.2) := by
  refine MM.of (by decide +kernel) (Nat.le_of_ble_eq_true rfl) ?_
  intro p e s m below meth c C hnm
  have J52 : ∀ (z : CS) (l2 : Int32), fX9_check_J52 o z l2 = some q → GC κ p l e s m ([.ref o, .int a1] : List Value).toArray below meth c rmX9_check 4 o (some (Value.int q.1)) (CB κ o q.2) 0 0 z 52 [(0, .ref o), (2, .int l2)] [] := by
    intro z l2 h
    unfold fX9_check_J52 at h
    refine G_aload_n (pc' := 53) C dX9_check_52 0 rfl rfl ?_
    refine G_iconst (pc' := 54) (v := (0 : Int32)) C dX9_check_53 (by decide) rfl ?_
    refine G_put (pc' := 57) (k := 13) C fi_X9 dX9_check_54 tw_fl_X9_86 rfl (by decide) rfl rfl rfl (Nat.le_of_ble_eq_true rfl) (CB_rd 0 rfl) (CB_wr (cI z 1 (0 : Int32)) 0 (by decide) rfl rfl) rfl ?_
    refine G_iload_n (pc' := 58) C dX9_check_57 1 rfl rfl ?_
    refine G_widen (k := rmX9_check.cells) (n := rmX9_check.slots) (by decide) (by decide) ?_
    obtain rfl := Option.some.inj h
    exact G_iret C dX9_check_58 (fun _ h => h)
  have J51 : ∀ (z : CS) (s0 : Int32), fX9_check_J51 o z s0 = some q → GC κ p l e s m ([.ref o, .int a1] : List Value).toArray below meth c rmX9_check 4 o (some (Value.int q.1)) (CB κ o q.2) 0 0 z 51 [(0, .ref o)] [.int s0] := by
    intro z s0 h
    unfold fX9_check_J51 at h
    refine G_istore_n (pc' := 52) C dX9_check_51 [(2, .int s0), (0, .ref o)] (by decide) rfl rfl ?_
    exact G_sub (lv' := [(0, .ref o), (2, .int s0)]) [1, 0] rfl (J52 z s0 h)
  unfold fX9_check at h
  refine G_sub (lv' := [(0, .ref o), (1, .int a1)]) [0, 1] rfl ?_
  refine G_aload_n (pc' := 1) C dX9_check_0 0 rfl rfl ?_
  refine G_iload_n (pc' := 2) C dX9_check_1 1 rfl rfl ?_
  replace h := ob h
  obtain ⟨q1, hq1, h⟩ := h
  refine G_cV0 (pc' := 5) C dX9_check_2 (tX9_findingOfTask κ l o z a1 q1 hq1) (wV tw_ml_X9_145 tw_im_X9_findingOfTask tw_se_X9_X9_findingOfTask tw_in_X9 tw_co_X9_findingOfTask) yd_X9_findingOfTask rfl fi_X9 (CB_rd 0 rfl) rfl rfl (by decide) rfl (Nat.le_of_ble_eq_true rfl) rfl rfl ?_
  refine G_istore_n (pc' := 6) C dX9_check_5 [(2, .int q1.1), (0, .ref o), (1, .int a1)] (by decide) rfl rfl ?_
  refine G_iload_n (pc' := 7) C dX9_check_6 0 rfl rfl ?_
  refine G_if_ne (tgt := 52) (pc' := 10) C dX9_check_7 (by decide) rfl (fun hc => ?_) (fun hc => ?_)
  · replace h := z_in hc h
    exact G_sub (lv' := [(0, .ref o), (2, .int q1.1)]) [1, 0] rfl (J52 q1.2 q1.1 h)
  · replace h := z_ip hc h
    refine G_aload_n (pc' := 11) C dX9_check_10 1 rfl rfl ?_
    refine G_get (pc' := 14) (k := 1) C fi_X9 dX9_check_11 tw_fl_X9_17 rfl (by decide) (CB_rd 0 rfl) rfl rfl ?_
    refine G_iload_n (pc' := 15) C dX9_check_14 2 rfl rfl ?_
    replace h := ob h
    obtain ⟨v2, hv2, h⟩ := h
    refine G_aald5V (pc' := 16) C dX9_check_15 (CB_rd 2 rfl) hv2 rfl ?_
    refine G_qstore_n (pc' := 17) C dX9_check_16 [(3, va_rf v2), (2, .int q1.1), (0, .ref o), (1, .int a1)] (by decide) rfl rfl ?_
    refine G_aload_n (pc' := 18) C dX9_check_17 2 rfl rfl ?_
    refine G_get (pc' := 21) (k := 6) C fi_X9 dX9_check_18 tw_fl_X9_44 rfl (by decide) (CB_rd 0 rfl) rfl rfl ?_
    refine G_aload_n (pc' := 22) C dX9_check_21 2 rfl rfl ?_
    refine G_get (pc' := 25) (k := 3) C fi_X9 dX9_check_22 tw_fl_X9_24 rfl (by decide) (CB_rd 0 rfl) rfl rfl ?_
    refine G_aload_n (pc' := 26) C dX9_check_25 2 rfl rfl ?_
    refine G_get (pc' := 29) (k := 13) C fi_X9 dX9_check_26 tw_fl_X9_86 rfl (by decide) (CB_rd 0 rfl) rfl rfl ?_
    refine G_qload_n (pc' := 30) C dX9_check_29 0 rfl rfl ?_
    replace h := ob h
    obtain ⟨ad3, had3, h⟩ := h
    subst had3
    replace h := ob h
    obtain ⟨t4, ht4, h⟩ := h
    refine G_get (pc' := 33) (k := 1) C fi_X8 dX9_check_30 tw_fl_X9_152 rfl (by decide) (CB_T ht4) rfl rfl ?_
    replace h := ob h
    obtain ⟨q5, hq5, h⟩ := h
    refine G_cV0 (pc' := 36) C dX9_check_33 (tX5_parse_12 κ l o q1.2 (q1.2.1 1) t4.2.1 q5 hq5) (wV tw_ml_X9_254 tw_im_X5_parse tw_se_X5_X5_parse tw_in_X5 tw_co_X5_parse) yd_X5_parse rfl fi_X5 (CB_rd 12 rfl) rfl rfl (by decide) rfl (Nat.le_of_ble_eq_true rfl) rfl rfl ?_
    refine G_if_eq (tgt := 49) (pc' := 39) C dX9_check_36 (by decide) rfl (fun hc => ?_) (fun hc => ?_)
    · replace h := z_ip hc h
      refine G_bipush (pc' := 51) (v := (-3 : Int32)) C dX9_check_49 (by decide) rfl ?_
      exact G_sub (lv' := [(0, .ref o)]) [2] rfl (J51 q5.2 (-3 : Int32) h)
    · replace h := z_in hc h
      refine G_aload_n (pc' := 40) C dX9_check_39 2 rfl rfl ?_
      refine G_aload_n (pc' := 41) C dX9_check_40 0 rfl rfl ?_
      replace h := ob h
      obtain ⟨q6, hq6, h⟩ := h
      refine G_cV0 (pc' := 44) C dX9_check_41 (tX9_leastMiss κ l o q5.2 ad3 q6 hq6) (wV tw_ml_X9_258 tw_im_X9_leastMiss tw_se_X9_X9_leastMiss tw_in_X9 tw_co_X9_leastMiss) yd_X9_leastMiss rfl fi_X9 (CB_rd 0 rfl) rfl rfl (by decide) rfl (Nat.le_of_ble_eq_true rfl) rfl rfl ?_
      refine G_iconst (pc' := 45) (v := (1 : Int32)) C dX9_check_44 (by decide) rfl ?_
      refine G_iadd (pc' := 46) C dX9_check_45 rfl ?_
      refine G_goto (tgt := 51) C dX9_check_46 (by decide) ?_
      exact G_sub (lv' := [(0, .ref o)]) [2] rfl (J51 q5.2 (q6 + (1 : Int32)) h)
theorem dX0_load_0 : decode cX0_load 0 = .ok (.aload_n 0, 1) := by decide +kernel
theorem dX0_load_1 : decode cX0_load 1 = .ok (.iconst 0, 1) := by decide +kernel
theorem dX0_load_2 : decode cX0_load 2 = .ok (.putfield 51, 3) := by decide +kernel
theorem dX0_load_5 : decode cX0_load 5 = .ok (.iconst 0, 1) := by decide +kernel
theorem dX0_load_6 : decode cX0_load 6 = .ok (.istore_n 3, 1) := by decide +kernel
theorem dX0_load_7 : decode cX0_load 7 = .ok (.iload_n 3, 1) := by decide +kernel
theorem dX0_load_8 : decode cX0_load 8 = .ok (.aload_n 1, 1) := by decide +kernel
theorem dX0_load_9 : decode cX0_load 9 = .ok (.getfield 37, 3) := by decide +kernel
theorem dX0_load_12 : decode cX0_load 12 = .ok (.arraylength, 1) := by decide +kernel
theorem dX0_load_13 : decode cX0_load 13 = .ok (.if_icmp .ge 141, 3) := by decide +kernel
theorem dX0_load_16 : decode cX0_load 16 = .ok (.iconst 0, 1) := by decide +kernel
theorem dX0_load_17 : decode cX0_load 17 = .ok (.istore 4, 2) := by decide +kernel
theorem dX0_load_19 : decode cX0_load 19 = .ok (.iconst 0, 1) := by decide +kernel
theorem dX0_load_20 : decode cX0_load 20 = .ok (.istore 5, 2) := by decide +kernel
theorem dX0_load_22 : decode cX0_load 22 = .ok (.iload 5, 2) := by decide +kernel
theorem dX0_load_24 : decode cX0_load 24 = .ok (.aload_n 1, 1) := by decide +kernel
theorem dX0_load_25 : decode cX0_load 25 = .ok (.getfield 43, 3) := by decide +kernel
theorem dX0_load_28 : decode cX0_load 28 = .ok (.if_icmp .ge 45, 3) := by decide +kernel
theorem dX0_load_31 : decode cX0_load 31 = .ok (.iload 4, 2) := by decide +kernel
theorem dX0_load_33 : decode cX0_load 33 = .ok (.ifCond .ne 40, 3) := by decide +kernel
theorem dX0_load_36 : decode cX0_load 36 = .ok (.iload_n 3, 1) := by decide +kernel
theorem dX0_load_37 : decode cX0_load 37 = .ok (.iload 5, 2) := by decide +kernel
theorem dX0_load_39 : decode cX0_load 39 = .ok (.ishr, 1) := by decide +kernel
theorem dX0_load_40 : decode cX0_load 40 = .ok (.iconst 1, 1) := by decide +kernel
theorem dX0_load_41 : decode cX0_load 41 = .ok (.iand, 1) := by decide +kernel
theorem dX0_load_42 : decode cX0_load 42 = .ok (.iconst 1, 1) := by decide +kernel
theorem dX0_load_43 : decode cX0_load 43 = .ok (.if_icmp .ne 21, 3) := by decide +kernel
theorem dX0_load_46 : decode cX0_load 46 = .ok (.aload_n 0, 1) := by decide +kernel
theorem dX0_load_47 : decode cX0_load 47 = .ok (.getfield 9, 3) := by decide +kernel
theorem dX0_load_50 : decode cX0_load 50 = .ok (.iload_n 3, 1) := by decide +kernel
theorem dX0_load_51 : decode cX0_load 51 = .ok (.iconst 1, 1) := by decide +kernel
theorem dX0_load_52 : decode cX0_load 52 = .ok (.iload 5, 2) := by decide +kernel
theorem dX0_load_54 : decode cX0_load 54 = .ok (.ishl, 1) := by decide +kernel
theorem dX0_load_55 : decode cX0_load 55 = .ok (.ixor, 1) := by decide +kernel
theorem dX0_load_56 : decode cX0_load 56 = .ok (.baload, 1) := by decide +kernel
theorem dX0_load_57 : decode cX0_load 57 = .ok (.ifCond .eq 7, 3) := by decide +kernel
theorem dX0_load_60 : decode cX0_load 60 = .ok (.iconst 1, 1) := by decide +kernel
theorem dX0_load_61 : decode cX0_load 61 = .ok (.goto 4, 3) := by decide +kernel
theorem dX0_load_64 : decode cX0_load 64 = .ok (.iconst 0, 1) := by decide +kernel
theorem dX0_load_65 : decode cX0_load 65 = .ok (.istore 4, 2) := by decide +kernel
theorem dX0_load_67 : decode cX0_load 67 = .ok (.iinc 5 1, 3) := by decide +kernel
theorem dX0_load_70 : decode cX0_load 70 = .ok (.goto (-48), 3) := by decide +kernel
theorem dX0_load_73 : decode cX0_load 73 = .ok (.aload_n 1, 1) := by decide +kernel
theorem dX0_load_74 : decode cX0_load 74 = .ok (.getfield 37, 3) := by decide +kernel
theorem dX0_load_77 : decode cX0_load 77 = .ok (.iload_n 2, 1) := by decide +kernel
theorem dX0_load_78 : decode cX0_load 78 = .ok (.iload_n 3, 1) := by decide +kernel
theorem dX0_load_79 : decode cX0_load 79 = .ok (.ixor, 1) := by decide +kernel
theorem dX0_load_80 : decode cX0_load 80 = .ok (.baload, 1) := by decide +kernel
theorem dX0_load_81 : decode cX0_load 81 = .ok (.aload_n 1, 1) := by decide +kernel
theorem dX0_load_82 : decode cX0_load 82 = .ok (.getfield 37, 3) := by decide +kernel
theorem dX0_load_85 : decode cX0_load 85 = .ok (.iload_n 2, 1) := by decide +kernel
theorem dX0_load_86 : decode cX0_load 86 = .ok (.baload, 1) := by decide +kernel
theorem dX0_load_87 : decode cX0_load 87 = .ok (.if_icmp .eq 7, 3) := by decide +kernel
theorem dX0_load_90 : decode cX0_load 90 = .ok (.iconst 1, 1) := by decide +kernel
theorem dX0_load_91 : decode cX0_load 91 = .ok (.goto 4, 3) := by decide +kernel
theorem dX0_load_94 : decode cX0_load 94 = .ok (.iconst 0, 1) := by decide +kernel
theorem dX0_load_95 : decode cX0_load 95 = .ok (.istore 5, 2) := by decide +kernel
theorem dX0_load_97 : decode cX0_load 97 = .ok (.aload_n 0, 1) := by decide +kernel
theorem dX0_load_98 : decode cX0_load 98 = .ok (.getfield 9, 3) := by decide +kernel
theorem dX0_load_101 : decode cX0_load 101 = .ok (.iload_n 3, 1) := by decide +kernel
theorem dX0_load_102 : decode cX0_load 102 = .ok (.iload 4, 2) := by decide +kernel
theorem dX0_load_104 : decode cX0_load 104 = .ok (.ifCond .ne 8, 3) := by decide +kernel
theorem dX0_load_107 : decode cX0_load 107 = .ok (.iload 5, 2) := by decide +kernel
theorem dX0_load_109 : decode cX0_load 109 = .ok (.ifCond .eq 7, 3) := by decide +kernel
theorem dX0_load_112 : decode cX0_load 112 = .ok (.iconst 1, 1) := by decide +kernel
theorem dX0_load_113 : decode cX0_load 113 = .ok (.goto 4, 3) := by decide +kernel
theorem dX0_load_116 : decode cX0_load 116 = .ok (.iconst 0, 1) := by decide +kernel
theorem dX0_load_117 : decode cX0_load 117 = .ok (.bastore, 1) := by decide +kernel
theorem dX0_load_118 : decode cX0_load 118 = .ok (.iload 5, 2) := by decide +kernel
theorem dX0_load_120 : decode cX0_load 120 = .ok (.ifCond .eq 28, 3) := by decide +kernel
theorem dX0_load_123 : decode cX0_load 123 = .ok (.iload 4, 2) := by decide +kernel
theorem dX0_load_125 : decode cX0_load 125 = .ok (.ifCond .ne 23, 3) := by decide +kernel
theorem dX0_load_128 : decode cX0_load 128 = .ok (.aload_n 0, 1) := by decide +kernel
theorem dX0_load_129 : decode cX0_load 129 = .ok (.getfield 15, 3) := by decide +kernel
theorem dX0_load_132 : decode cX0_load 132 = .ok (.aload_n 0, 1) := by decide +kernel
theorem dX0_load_133 : decode cX0_load 133 = .ok (.getfield 51, 3) := by decide +kernel
theorem dX0_load_136 : decode cX0_load 136 = .ok (.iload_n 3, 1) := by decide +kernel
theorem dX0_load_137 : decode cX0_load 137 = .ok (.iastore, 1) := by decide +kernel
theorem dX0_load_138 : decode cX0_load 138 = .ok (.aload_n 0, 1) := by decide +kernel
theorem dX0_load_139 : decode cX0_load 139 = .ok (.dup, 1) := by decide +kernel
theorem dX0_load_140 : decode cX0_load 140 = .ok (.getfield 51, 3) := by decide +kernel
theorem dX0_load_143 : decode cX0_load 143 = .ok (.iconst 1, 1) := by decide +kernel
theorem dX0_load_144 : decode cX0_load 144 = .ok (.iadd, 1) := by decide +kernel
theorem dX0_load_145 : decode cX0_load 145 = .ok (.putfield 51, 3) := by decide +kernel
theorem dX0_load_148 : decode cX0_load 148 = .ok (.iinc 3 1, 3) := by decide +kernel
theorem dX0_load_151 : decode cX0_load 151 = .ok (.goto (-144), 3) := by decide +kernel
theorem dX0_load_154 : decode cX0_load 154 = .ok (.return_, 1) := by decide +kernel
theorem yd_X0_load : yX0_load.cls = RX0 ∧ yX0_load.cls ≠ "java/lang/invoke/MethodHandle" ∧ yX0_load.cls ≠ "java/lang/invoke/VarHandle" ∧ (parseMethodDescriptor yX0_load.desc).map (fun d => d.parameters.length) = some 2 := by decide +kernel
abbrev rmX0_load : Room := { frames := 0, cells := 0, slots := 0, locals := 0 }
def fX0_load_L22_J65 (o : Nat) (z : CS) (l1 : Nat) (l2 : Int32) (l3 : Int32) (l5 : Int32) (s0 : Int32) : Option ((Int32 × Int32) ⊕ Int32) :=
  some (.inl (s0, (l5 + (1 : Int32))))
def fX0_load_L22_J64 (o : Nat) (z : CS) (l1 : Nat) (l2 : Int32) (l3 : Int32) (l5 : Int32) : Option ((Int32 × Int32) ⊕ Int32) :=
  fX0_load_L22_J65 o z l1 l2 l3 l5 (0 : Int32)
def fX0_load_L22 (o : Nat) (z : CS) (l1 : Nat) (l2 : Int32) (l3 : Int32) (l4 : Int32) (l5 : Int32) : Option ((Int32 × Int32) ⊕ Int32) :=
  (dT z l1).bind fun t4 =>
  if t4.2.1 ≤ l5 then
    some (.inr l4)
  else
    if l4 = 0 then
      if ((l3 >>> (l5 &&& 31)) &&& (1 : Int32)) = (1 : Int32) then
        (aI 256 (z.2.1 9) (l3 ^^^ ((1 : Int32) <<< (l5 &&& 31)))).bind fun v5 =>
        if v5 = 0 then
          fX0_load_L22_J64 o z l1 l2 l3 l5
        else
          fX0_load_L22_J65 o z l1 l2 l3 l5 (1 : Int32)
      else
        fX0_load_L22_J64 o z l1 l2 l3 l5
    else
      some (.inr l4)
def fX0_load_L7_J148 (o : Nat) (z : CS) (l1 : Nat) (l2 : Int32) (l3 : Int32) : Option ((Int32 × CS) ⊕ CS) :=
  some (.inl ((l3 + (1 : Int32)), z))
def fX0_load_L7_J117 (o : Nat) (z : CS) (l1 : Nat) (l2 : Int32) (l3 : Int32) (l4 : Int32) (l5 : Int32) (s0 : Int32) (s1 : Int32) : Option ((Int32 × CS) ⊕ CS) :=
  (csA z 9 256 s1 (vp_nar .boolean s0)).bind fun z13 =>
  if l5 = 0 then
    fX0_load_L7_J148 o z13 l1 l2 l3
  else
    if l4 = 0 then
      (csA z13 10 256 (z13.1 8) l3).bind fun z14 =>
      fX0_load_L7_J148 o (cI z14 8 ((z14.1 8) + (1 : Int32))) l1 l2 l3
    else
      fX0_load_L7_J148 o z13 l1 l2 l3
def fX0_load_L7_J112 (o : Nat) (z : CS) (l1 : Nat) (l2 : Int32) (l3 : Int32) (l4 : Int32) (l5 : Int32) (s0 : Int32) : Option ((Int32 × CS) ⊕ CS) :=
  fX0_load_L7_J117 o z l1 l2 l3 l4 l5 (1 : Int32) s0
def fX0_load_L7_J95 (o : Nat) (z : CS) (l1 : Nat) (l2 : Int32) (l3 : Int32) (l4 : Int32) (s0 : Int32) : Option ((Int32 × CS) ⊕ CS) :=
  if l4 = 0 then
    if s0 = 0 then
      fX0_load_L7_J117 o z l1 l2 l3 l4 s0 (0 : Int32) l3
    else
      fX0_load_L7_J112 o z l1 l2 l3 l4 s0 l3
  else
    fX0_load_L7_J112 o z l1 l2 l3 l4 s0 l3
def fX0_load_L7 (o : Nat) (z : CS) (l1 : Nat) (l2 : Int32) (l3 : Int32) : Option ((Int32 × CS) ⊕ CS) :=
  (dT z l1).bind fun t1 =>
  (t1.2.2.2).bind fun ad2 =>
  (lnB z ad2).bind fun v3 =>
  if v3 ≤ l3 then
    some (.inr z)
  else
    (lpN (fun u => fX0_load_L22 o z l1 l2 l3 u.1 u.2) bigN ((0 : Int32), (0 : Int32))).bind fun e6 =>
    (dT z l1).bind fun t7 =>
    (t7.2.2.2).bind fun ad8 =>
    (rdB z ad8 (l2 ^^^ l3)).bind fun v9 =>
    (dT z l1).bind fun t10 =>
    (t10.2.2.2).bind fun ad11 =>
    (rdB z ad11 l2).bind fun v12 =>
    if v9 = v12 then
      fX0_load_L7_J95 o z l1 l2 l3 e6 (0 : Int32)
    else
      fX0_load_L7_J95 o z l1 l2 l3 e6 (1 : Int32)
def fX0_load (o : Nat) (z : CS) (a1 : Nat) (a2 : Int32) : Option (CS) :=
  (lpN (fun u => fX0_load_L7 o u.2 a1 a2 u.1) bigN ((0 : Int32), (cI z 8 (0 : Int32)))).bind fun e15 =>
  some e15
set_option maxHeartbeats 4000000 in
set_option maxRecDepth 100000 in
theorem tX0_load_L22 {κ : KK} {p : Program} {l : Launch} {e : Env} {s : State} {m : MethodId} {args : Array Value} {below : List Frame} {meth : Method} {c : Code} (C : Cx κ p s m args meth c cX0_load 6 RX0 none) {o : Nat} {v : Option Value} {B' : Heap → Prop} {z : CS} {l1 : Nat} {l2 : Int32} {l3 : Int32} {l4 : Int32} {l5 : Int32} {y : (Int32 × Int32) ⊕ Int32} (h : fX0_load_L22 o z l1 l2 l3 l4 l5 = some y) (kc : ∀ u, y = .inl u → GC κ p l e s m args below meth c rmX0_load 6 o v B' 0 0 z 22 [(0, .ref (o + 16)), (1, .ref l1), (2, .int l2), (3, .int l3), (4, .int u.1), (5, .int u.2)] []) (kx : ∀ w, y = .inr w → GC κ p l e s m args below meth c rmX0_load 6 o v B' 0 0 z 73 [(0, .ref (o + 16)), (1, .ref l1), (2, .int l2), (3, .int l3), (4, .int w)] []) : GC κ p l e s m args below meth c rmX0_load 6 o v B' 0 0 z 22 [(0, .ref (o + 16)), (1, .ref l1), (2, .int l2), (3, .int l3), (4, .int l4), (5, .int l5)] [] := by
  have J65 : ∀ (l5 : Int32) (s0 : Int32), fX0_load_L22_J65 o z l1 l2 l3 l5 s0 = some y → GC κ p l e s m args below meth c rmX0_load 6 o v B' 0 0 z 65 [(0, .ref (o + 16)), (1, .ref l1), (2, .int l2), (3, .int l3), (5, .int l5)] [.int s0] := by
    intro l5 s0 h
    unfold fX0_load_L22_J65 at h
    refine G_istore (pc' := 67) C dX0_load_65 [(4, .int s0), (0, .ref (o + 16)), (1, .ref l1), (2, .int l2), (3, .int l3), (5, .int l5)] (by decide) rfl rfl ?_
    refine G_iinc (pc' := 70) C dX0_load_67 5 rfl rfl [(5, .int (l5 + (1 : Int32))), (4, .int s0), (0, .ref (o + 16)), (1, .ref l1), (2, .int l2), (3, .int l3)] (by decide) rfl rfl ?_
    refine G_goto (tgt := 22) C dX0_load_70 (by decide) ?_
    exact G_sub (lv' := [(0, .ref (o + 16)), (1, .ref l1), (2, .int l2), (3, .int l3), (4, .int s0), (5, .int (l5 + (1 : Int32)))]) [2, 3, 4, 5, 1, 0] rfl (kc (s0, (l5 + (1 : Int32))) (Option.some.inj h).symm)
  have J64 : ∀ (l5 : Int32), fX0_load_L22_J64 o z l1 l2 l3 l5 = some y → GC κ p l e s m args below meth c rmX0_load 6 o v B' 0 0 z 64 [(0, .ref (o + 16)), (1, .ref l1), (2, .int l2), (3, .int l3), (5, .int l5)] [] := by
    intro l5 h
    unfold fX0_load_L22_J64 at h
    refine G_iconst (pc' := 65) (v := (0 : Int32)) C dX0_load_64 (by decide) rfl ?_
    exact G_sub (lv' := [(0, .ref (o + 16)), (1, .ref l1), (2, .int l2), (3, .int l3), (5, .int l5)]) [0, 1, 2, 3, 4] rfl (J65 l5 (0 : Int32) h)
  unfold fX0_load_L22 at h
  refine G_iload (pc' := 24) C dX0_load_22 5 rfl rfl ?_
  refine G_aload_n (pc' := 25) C dX0_load_24 1 rfl rfl ?_
  replace h := ob h
  obtain ⟨t4, ht4, h⟩ := h
  refine G_get (pc' := 28) (k := 1) C fi_X8 dX0_load_25 tw_fl_X0_43 rfl (by decide) (CB_T ht4) rfl rfl ?_
  refine G_icmp_ge (tgt := 73) (pc' := 31) C dX0_load_28 (by decide) rfl (fun hc => ?_) (fun hc => ?_)
  · replace h := z_ip hc h
    exact G_sub (lv' := [(0, .ref (o + 16)), (1, .ref l1), (2, .int l2), (3, .int l3), (4, .int l4)]) [0, 1, 2, 3, 4] rfl (kx _ (Option.some.inj h).symm)
  · replace h := z_in hc h
    refine G_iload (pc' := 33) C dX0_load_31 4 rfl rfl ?_
    refine G_if_ne (tgt := 73) (pc' := 36) C dX0_load_33 (by decide) rfl (fun hc => ?_) (fun hc => ?_)
    · replace h := z_in hc h
      exact G_sub (lv' := [(0, .ref (o + 16)), (1, .ref l1), (2, .int l2), (3, .int l3), (4, .int l4)]) [0, 1, 2, 3, 4] rfl (kx _ (Option.some.inj h).symm)
    · replace h := z_ip hc h
      refine G_iload_n (pc' := 37) C dX0_load_36 3 rfl rfl ?_
      refine G_iload (pc' := 39) C dX0_load_37 5 rfl rfl ?_
      refine G_ishr (pc' := 40) C dX0_load_39 rfl ?_
      refine G_iconst (pc' := 41) (v := (1 : Int32)) C dX0_load_40 (by decide) rfl ?_
      refine G_iand (pc' := 42) C dX0_load_41 rfl ?_
      refine G_iconst (pc' := 43) (v := (1 : Int32)) C dX0_load_42 (by decide) rfl ?_
      refine G_icmp_ne (tgt := 64) (pc' := 46) C dX0_load_43 (by decide) rfl (fun hc => ?_) (fun hc => ?_)
      · replace h := z_in hc h
        exact G_sub (lv' := [(0, .ref (o + 16)), (1, .ref l1), (2, .int l2), (3, .int l3), (5, .int l5)]) [0, 1, 2, 3, 5] rfl (J64 l5 h)
      · replace h := z_ip hc h
        refine G_aload_n (pc' := 47) C dX0_load_46 0 rfl rfl ?_
        refine G_get (pc' := 50) (k := 0) C fi_X0 dX0_load_47 tw_fl_X0_9 rfl (by decide) (CB_rd 16 rfl) rfl rfl ?_
        refine G_iload_n (pc' := 51) C dX0_load_50 3 rfl rfl ?_
        refine G_iconst (pc' := 52) (v := (1 : Int32)) C dX0_load_51 (by decide) rfl ?_
        refine G_iload (pc' := 54) C dX0_load_52 5 rfl rfl ?_
        refine G_ishl (pc' := 55) C dX0_load_54 rfl ?_
        refine G_ixor (pc' := 56) C dX0_load_55 rfl ?_
        replace h := ob h
        obtain ⟨v5, hv5, h⟩ := h
        refine G_zaldV (pc' := 57) C dX0_load_56 (CB_rd 17 rfl) hv5 rfl ?_
        refine G_if_eq (tgt := 64) (pc' := 60) C dX0_load_57 (by decide) rfl (fun hc => ?_) (fun hc => ?_)
        · replace h := z_ip hc h
          exact G_sub (lv' := [(0, .ref (o + 16)), (1, .ref l1), (2, .int l2), (3, .int l3), (5, .int l5)]) [0, 1, 2, 3, 5] rfl (J64 l5 h)
        · replace h := z_in hc h
          refine G_iconst (pc' := 61) (v := (1 : Int32)) C dX0_load_60 (by decide) rfl ?_
          refine G_goto (tgt := 65) C dX0_load_61 (by decide) ?_
          exact G_sub (lv' := [(0, .ref (o + 16)), (1, .ref l1), (2, .int l2), (3, .int l3), (5, .int l5)]) [0, 1, 2, 3, 5] rfl (J65 l5 (1 : Int32) h)
set_option maxHeartbeats 4000000 in
set_option maxRecDepth 100000 in
theorem tX0_load_L7 {κ : KK} {p : Program} {l : Launch} {e : Env} {s : State} {m : MethodId} {args : Array Value} {below : List Frame} {meth : Method} {c : Code} (C : Cx κ p s m args meth c cX0_load 6 RX0 none) {o : Nat} {v : Option Value} {B' : Heap → Prop} {z : CS} {l1 : Nat} {l2 : Int32} {l3 : Int32} {y : (Int32 × CS) ⊕ CS} (h : fX0_load_L7 o z l1 l2 l3 = some y) (kc : ∀ u, y = .inl u → GC κ p l e s m args below meth c rmX0_load 6 o v B' 0 0 u.2 7 [(0, .ref (o + 16)), (1, .ref l1), (2, .int l2), (3, .int u.1)] []) (kx : ∀ w, y = .inr w → GC κ p l e s m args below meth c rmX0_load 6 o v B' 0 0 w 154 [] []) : GC κ p l e s m args below meth c rmX0_load 6 o v B' 0 0 z 7 [(0, .ref (o + 16)), (1, .ref l1), (2, .int l2), (3, .int l3)] [] := by
  have J148 : ∀ (z : CS) (l3 : Int32), fX0_load_L7_J148 o z l1 l2 l3 = some y → GC κ p l e s m args below meth c rmX0_load 6 o v B' 0 0 z 148 [(0, .ref (o + 16)), (1, .ref l1), (2, .int l2), (3, .int l3)] [] := by
    intro z l3 h
    unfold fX0_load_L7_J148 at h
    refine G_iinc (pc' := 151) C dX0_load_148 3 rfl rfl [(3, .int (l3 + (1 : Int32))), (0, .ref (o + 16)), (1, .ref l1), (2, .int l2)] (by decide) rfl rfl ?_
    refine G_goto (tgt := 7) C dX0_load_151 (by decide) ?_
    exact G_sub (lv' := [(0, .ref (o + 16)), (1, .ref l1), (2, .int l2), (3, .int (l3 + (1 : Int32)))]) [1, 2, 3, 0] rfl (kc ((l3 + (1 : Int32)), z) (Option.some.inj h).symm)
  have J117 : ∀ (z : CS) (l3 : Int32) (l4 : Int32) (l5 : Int32) (s0 : Int32) (s1 : Int32), fX0_load_L7_J117 o z l1 l2 l3 l4 l5 s0 s1 = some y → GC κ p l e s m args below meth c rmX0_load 6 o v B' 0 0 z 117 [(0, .ref (o + 16)), (1, .ref l1), (2, .int l2), (3, .int l3), (4, .int l4), (5, .int l5)] [.int s0, .int s1, .ref (o + 17)] := by
    intro z l3 l4 l5 s0 s1 h
    unfold fX0_load_L7_J117 at h
    replace h := ob h
    obtain ⟨z13, hz13, h⟩ := h
    refine C_s_17 (pc' := 118) C dX0_load_117 hz13 rfl ?_
    refine G_iload (pc' := 120) C dX0_load_118 5 rfl rfl ?_
    refine G_if_eq (tgt := 148) (pc' := 123) C dX0_load_120 (by decide) rfl (fun hc => ?_) (fun hc => ?_)
    · replace h := z_ip hc h
      exact G_sub (lv' := [(0, .ref (o + 16)), (1, .ref l1), (2, .int l2), (3, .int l3)]) [0, 1, 2, 3] rfl (J148 z13 l3 h)
    · replace h := z_in hc h
      refine G_iload (pc' := 125) C dX0_load_123 4 rfl rfl ?_
      refine G_if_ne (tgt := 148) (pc' := 128) C dX0_load_125 (by decide) rfl (fun hc => ?_) (fun hc => ?_)
      · replace h := z_in hc h
        exact G_sub (lv' := [(0, .ref (o + 16)), (1, .ref l1), (2, .int l2), (3, .int l3)]) [0, 1, 2, 3] rfl (J148 z13 l3 h)
      · replace h := z_ip hc h
        refine G_aload_n (pc' := 129) C dX0_load_128 0 rfl rfl ?_
        refine G_get (pc' := 132) (k := 1) C fi_X0 dX0_load_129 tw_fl_X0_15 rfl (by decide) (CB_rd 16 rfl) rfl rfl ?_
        refine G_aload_n (pc' := 133) C dX0_load_132 0 rfl rfl ?_
        refine G_get (pc' := 136) (k := 3) C fi_X0 dX0_load_133 tw_fl_X0_51 rfl (by decide) (CB_rd 16 rfl) rfl rfl ?_
        refine G_iload_n (pc' := 137) C dX0_load_136 3 rfl rfl ?_
        replace h := ob h
        obtain ⟨z14, hz14, h⟩ := h
        refine C_s_18 (pc' := 138) C dX0_load_137 hz14 rfl ?_
        refine G_aload_n (pc' := 139) C dX0_load_138 0 rfl rfl ?_
        refine G_dup (pc' := 140) C dX0_load_139 rfl rfl ?_
        refine G_get (pc' := 143) (k := 3) C fi_X0 dX0_load_140 tw_fl_X0_51 rfl (by decide) (CB_rd 16 rfl) rfl rfl ?_
        refine G_iconst (pc' := 144) (v := (1 : Int32)) C dX0_load_143 (by decide) rfl ?_
        refine G_iadd (pc' := 145) C dX0_load_144 rfl ?_
        refine G_put (pc' := 148) (k := 3) C fi_X0 dX0_load_145 tw_fl_X0_51 rfl (by decide) rfl rfl rfl (Nat.le_of_ble_eq_true rfl) (CB_rd 16 rfl) (CB_wr (cI z14 8 ((z14.1 8) + (1 : Int32))) 16 (by decide) rfl rfl) rfl ?_
        exact G_sub (lv' := [(0, .ref (o + 16)), (1, .ref l1), (2, .int l2), (3, .int l3)]) [0, 1, 2, 3] rfl (J148 (cI z14 8 ((z14.1 8) + (1 : Int32))) l3 h)
  have J112 : ∀ (z : CS) (l3 : Int32) (l4 : Int32) (l5 : Int32) (s0 : Int32), fX0_load_L7_J112 o z l1 l2 l3 l4 l5 s0 = some y → GC κ p l e s m args below meth c rmX0_load 6 o v B' 0 0 z 112 [(0, .ref (o + 16)), (1, .ref l1), (2, .int l2), (3, .int l3), (4, .int l4), (5, .int l5)] [.int s0, .ref (o + 17)] := by
    intro z l3 l4 l5 s0 h
    unfold fX0_load_L7_J112 at h
    refine G_iconst (pc' := 113) (v := (1 : Int32)) C dX0_load_112 (by decide) rfl ?_
    refine G_goto (tgt := 117) C dX0_load_113 (by decide) ?_
    exact G_sub (lv' := [(0, .ref (o + 16)), (1, .ref l1), (2, .int l2), (3, .int l3), (4, .int l4), (5, .int l5)]) [0, 1, 2, 3, 4, 5] rfl (J117 z l3 l4 l5 (1 : Int32) s0 h)
  have J95 : ∀ (z : CS) (l3 : Int32) (l4 : Int32) (s0 : Int32), fX0_load_L7_J95 o z l1 l2 l3 l4 s0 = some y → GC κ p l e s m args below meth c rmX0_load 6 o v B' 0 0 z 95 [(0, .ref (o + 16)), (1, .ref l1), (2, .int l2), (3, .int l3), (4, .int l4)] [.int s0] := by
    intro z l3 l4 s0 h
    unfold fX0_load_L7_J95 at h
    refine G_istore (pc' := 97) C dX0_load_95 [(5, .int s0), (0, .ref (o + 16)), (1, .ref l1), (2, .int l2), (3, .int l3), (4, .int l4)] (by decide) rfl rfl ?_
    refine G_aload_n (pc' := 98) C dX0_load_97 1 rfl rfl ?_
    refine G_get (pc' := 101) (k := 0) C fi_X0 dX0_load_98 tw_fl_X0_9 rfl (by decide) (CB_rd 16 rfl) rfl rfl ?_
    refine G_iload_n (pc' := 102) C dX0_load_101 4 rfl rfl ?_
    refine G_iload (pc' := 104) C dX0_load_102 5 rfl rfl ?_
    refine G_if_ne (tgt := 112) (pc' := 107) C dX0_load_104 (by decide) rfl (fun hc => ?_) (fun hc => ?_)
    · replace h := z_in hc h
      exact G_sub (lv' := [(0, .ref (o + 16)), (1, .ref l1), (2, .int l2), (3, .int l3), (4, .int l4), (5, .int s0)]) [1, 2, 3, 4, 5, 0] rfl (J112 z l3 l4 s0 l3 h)
    · replace h := z_ip hc h
      refine G_iload (pc' := 109) C dX0_load_107 0 rfl rfl ?_
      refine G_if_eq (tgt := 116) (pc' := 112) C dX0_load_109 (by decide) rfl (fun hc => ?_) (fun hc => ?_)
      · replace h := z_ip hc h
        refine G_iconst (pc' := 117) (v := (0 : Int32)) C dX0_load_116 (by decide) rfl ?_
        exact G_sub (lv' := [(0, .ref (o + 16)), (1, .ref l1), (2, .int l2), (3, .int l3), (4, .int l4), (5, .int s0)]) [1, 2, 3, 4, 5, 0] rfl (J117 z l3 l4 s0 (0 : Int32) l3 h)
      · replace h := z_in hc h
        exact G_sub (lv' := [(0, .ref (o + 16)), (1, .ref l1), (2, .int l2), (3, .int l3), (4, .int l4), (5, .int s0)]) [1, 2, 3, 4, 5, 0] rfl (J112 z l3 l4 s0 l3 h)
  unfold fX0_load_L7 at h
  refine G_iload_n (pc' := 8) C dX0_load_7 3 rfl rfl ?_
  refine G_aload_n (pc' := 9) C dX0_load_8 1 rfl rfl ?_
  replace h := ob h
  obtain ⟨t1, ht1, h⟩ := h
  refine G_get (pc' := 12) (k := 3) C fi_X8 dX0_load_9 tw_fl_X0_37 rfl (by decide) (CB_T ht1) rfl rfl ?_
  replace h := ob h
  obtain ⟨ad2, had2, h⟩ := h
  rw [had2]
  replace h := ob h
  obtain ⟨v3, hv3, h⟩ := h
  refine P_lenB (pc' := 13) C dX0_load_12 hv3 rfl ?_
  refine G_icmp_ge (tgt := 154) (pc' := 16) C dX0_load_13 (by decide) rfl (fun hc => ?_) (fun hc => ?_)
  · replace h := z_ip hc h
    exact G_sub (lv' := []) [] rfl (kx _ (Option.some.inj h).symm)
  · replace h := z_in hc h
    refine G_iconst (pc' := 17) (v := (0 : Int32)) C dX0_load_16 (by decide) rfl ?_
    refine G_istore (pc' := 19) C dX0_load_17 [(4, .int (0 : Int32)), (0, .ref (o + 16)), (1, .ref l1), (2, .int l2), (3, .int l3)] (by decide) rfl rfl ?_
    refine G_iconst (pc' := 20) (v := (0 : Int32)) C dX0_load_19 (by decide) rfl ?_
    refine G_istore (pc' := 22) C dX0_load_20 [(5, .int (0 : Int32)), (4, .int (0 : Int32)), (0, .ref (o + 16)), (1, .ref l1), (2, .int l2), (3, .int l3)] (by decide) rfl rfl ?_
    replace h := ob h
    obtain ⟨e6, hle6, h⟩ := h
    refine G_sub (lv' := [(0, .ref (o + 16)), (1, .ref l1), (2, .int l2), (3, .int l3), (4, .int (0 : Int32)), (5, .int (0 : Int32))]) [2, 3, 4, 5, 1, 0] rfl ?_
    refine lpN_ind (body := fun u => fX0_load_L22 o z l1 l2 l3 u.1 u.2) (P := fun u => GC κ p l e s m args below meth c rmX0_load 6 o v B' 0 0 z 22 [(0, .ref (o + 16)), (1, .ref l1), (2, .int l2), (3, .int l3), (4, .int u.1), (5, .int u.2)] []) (X := fun w => GC κ p l e s m args below meth c rmX0_load 6 o v B' 0 0 z 73 [(0, .ref (o + 16)), (1, .ref l1), (2, .int l2), (3, .int l3), (4, .int w)] []) (fun u y hb kc kx => tX0_load_L22 C hb kc kx) _ _ _ hle6 ?_
    refine G_aload_n (pc' := 74) C dX0_load_73 1 rfl rfl ?_
    replace h := ob h
    obtain ⟨t7, ht7, h⟩ := h
    refine G_get (pc' := 77) (k := 3) C fi_X8 dX0_load_74 tw_fl_X0_37 rfl (by decide) (CB_T ht7) rfl rfl ?_
    refine G_iload_n (pc' := 78) C dX0_load_77 2 rfl rfl ?_
    refine G_iload_n (pc' := 79) C dX0_load_78 3 rfl rfl ?_
    refine G_ixor (pc' := 80) C dX0_load_79 rfl ?_
    replace h := ob h
    obtain ⟨ad8, had8, h⟩ := h
    rw [had8]
    replace h := ob h
    obtain ⟨v9, hv9, h⟩ := h
    refine P_bald (pc' := 81) C dX0_load_80 hv9 rfl ?_
    refine G_aload_n (pc' := 82) C dX0_load_81 1 rfl rfl ?_
    replace h := ob h
    obtain ⟨t10, ht10, h⟩ := h
    refine G_get (pc' := 85) (k := 3) C fi_X8 dX0_load_82 tw_fl_X0_37 rfl (by decide) (CB_T ht10) rfl rfl ?_
    refine G_iload_n (pc' := 86) C dX0_load_85 2 rfl rfl ?_
    replace h := ob h
    obtain ⟨ad11, had11, h⟩ := h
    rw [had11]
    replace h := ob h
    obtain ⟨v12, hv12, h⟩ := h
    refine P_bald (pc' := 87) C dX0_load_86 hv12 rfl ?_
    refine G_icmp_eq (tgt := 94) (pc' := 90) C dX0_load_87 (by decide) rfl (fun hc => ?_) (fun hc => ?_)
    · replace h := z_ip hc h
      refine G_iconst (pc' := 95) (v := (0 : Int32)) C dX0_load_94 (by decide) rfl ?_
      exact G_sub (lv' := [(0, .ref (o + 16)), (1, .ref l1), (2, .int l2), (3, .int l3), (4, .int e6)]) [0, 1, 2, 3, 4] rfl (J95 z l3 e6 (0 : Int32) h)
    · replace h := z_in hc h
      refine G_iconst (pc' := 91) (v := (1 : Int32)) C dX0_load_90 (by decide) rfl ?_
      refine G_goto (tgt := 95) C dX0_load_91 (by decide) ?_
      exact G_sub (lv' := [(0, .ref (o + 16)), (1, .ref l1), (2, .int l2), (3, .int l3), (4, .int e6)]) [0, 1, 2, 3, 4] rfl (J95 z l3 e6 (1 : Int32) h)
set_option maxHeartbeats 4000000 in
set_option maxRecDepth 100000 in
theorem tX0_load (κ : KK) (l : Launch) (o : Nat) (z : CS) (a1 : Nat) (a2 : Int32) (q : CS) (h : fX0_load o z a1 a2 = some q) : MM κ l yX0_load cX0_load 6 none rmX0_load (CA o) [.ref (o + 16), .ref a1, .int a2] (CB κ o z) none (CB κ o q) := by
  refine MM.of (by decide +kernel) (Nat.le_of_ble_eq_true rfl) ?_
  intro p e s m below meth c C hnm
  unfold fX0_load at h
  refine G_sub (lv' := [(0, .ref (o + 16)), (1, .ref a1), (2, .int a2)]) [0, 1, 2] rfl ?_
  refine G_aload_n (pc' := 1) C dX0_load_0 0 rfl rfl ?_
  refine G_iconst (pc' := 2) (v := (0 : Int32)) C dX0_load_1 (by decide) rfl ?_
  refine G_put (pc' := 5) (k := 3) C fi_X0 dX0_load_2 tw_fl_X0_51 rfl (by decide) rfl rfl rfl (Nat.le_of_ble_eq_true rfl) (CB_rd 16 rfl) (CB_wr (cI z 8 (0 : Int32)) 16 (by decide) rfl rfl) rfl ?_
  refine G_iconst (pc' := 6) (v := (0 : Int32)) C dX0_load_5 (by decide) rfl ?_
  refine G_istore_n (pc' := 7) C dX0_load_6 [(3, .int (0 : Int32)), (0, .ref (o + 16)), (1, .ref a1), (2, .int a2)] (by decide) rfl rfl ?_
  replace h := ob h
  obtain ⟨e15, hle15, h⟩ := h
  refine G_sub (lv' := [(0, .ref (o + 16)), (1, .ref a1), (2, .int a2), (3, .int (0 : Int32))]) [1, 2, 3, 0] rfl ?_
  refine lpN_ind (body := fun u => fX0_load_L7 o u.2 a1 a2 u.1) (P := fun u => GC κ p l e s m ([.ref (o + 16), .ref a1, .int a2] : List Value).toArray below meth c rmX0_load 6 o none (CB κ o q) 0 0 u.2 7 [(0, .ref (o + 16)), (1, .ref a1), (2, .int a2), (3, .int u.1)] []) (X := fun w => GC κ p l e s m ([.ref (o + 16), .ref a1, .int a2] : List Value).toArray below meth c rmX0_load 6 o none (CB κ o q) 0 0 w 154 [] []) (fun u y hb kc kx => tX0_load_L7 C hb kc kx) _ _ _ hle15 ?_
  refine G_widen (k := rmX0_load.cells) (n := rmX0_load.slots) (by decide) (by decide) ?_
  obtain rfl := Option.some.inj h
  exact G_vret C dX0_load_154 (fun _ h => h)
theorem dX0_proofBits_0 : decode cX0_proofBits 0 = .ok (.iconst 0, 1) := by decide +kernel
theorem dX0_proofBits_1 : decode cX0_proofBits 1 = .ok (.istore_n 2, 1) := by decide +kernel
theorem dX0_proofBits_2 : decode cX0_proofBits 2 = .ok (.iconst 0, 1) := by decide +kernel
theorem dX0_proofBits_3 : decode cX0_proofBits 3 = .ok (.istore_n 3, 1) := by decide +kernel
theorem dX0_proofBits_4 : decode cX0_proofBits 4 = .ok (.iload_n 3, 1) := by decide +kernel
theorem dX0_proofBits_5 : decode cX0_proofBits 5 = .ok (.aload_n 1, 1) := by decide +kernel
theorem dX0_proofBits_6 : decode cX0_proofBits 6 = .ok (.getfield 37, 3) := by decide +kernel
theorem dX0_proofBits_9 : decode cX0_proofBits 9 = .ok (.arraylength, 1) := by decide +kernel
theorem dX0_proofBits_10 : decode cX0_proofBits 10 = .ok (.if_icmp .ge 27, 3) := by decide +kernel
theorem dX0_proofBits_13 : decode cX0_proofBits 13 = .ok (.aload_n 0, 1) := by decide +kernel
theorem dX0_proofBits_14 : decode cX0_proofBits 14 = .ok (.getfield 9, 3) := by decide +kernel
theorem dX0_proofBits_17 : decode cX0_proofBits 17 = .ok (.iload_n 3, 1) := by decide +kernel
theorem dX0_proofBits_18 : decode cX0_proofBits 18 = .ok (.baload, 1) := by decide +kernel
theorem dX0_proofBits_19 : decode cX0_proofBits 19 = .ok (.ifCond .ne 12, 3) := by decide +kernel
theorem dX0_proofBits_22 : decode cX0_proofBits 22 = .ok (.iload_n 2, 1) := by decide +kernel
theorem dX0_proofBits_23 : decode cX0_proofBits 23 = .ok (.iload_n 3, 1) := by decide +kernel
theorem dX0_proofBits_24 : decode cX0_proofBits 24 = .ok (.invokestatic 60, 3) := by decide +kernel
theorem dX0_proofBits_27 : decode cX0_proofBits 27 = .ok (.invokestatic 54, 3) := by decide +kernel
theorem dX0_proofBits_30 : decode cX0_proofBits 30 = .ok (.istore_n 2, 1) := by decide +kernel
theorem dX0_proofBits_31 : decode cX0_proofBits 31 = .ok (.iinc 3 1, 3) := by decide +kernel
theorem dX0_proofBits_34 : decode cX0_proofBits 34 = .ok (.goto (-30), 3) := by decide +kernel
theorem dX0_proofBits_37 : decode cX0_proofBits 37 = .ok (.aload_n 1, 1) := by decide +kernel
theorem dX0_proofBits_38 : decode cX0_proofBits 38 = .ok (.getfield 43, 3) := by decide +kernel
theorem dX0_proofBits_41 : decode cX0_proofBits 41 = .ok (.iload_n 2, 1) := by decide +kernel
theorem dX0_proofBits_42 : decode cX0_proofBits 42 = .ok (.isub, 1) := by decide +kernel
theorem dX0_proofBits_43 : decode cX0_proofBits 43 = .ok (.ireturn, 1) := by decide +kernel
theorem yd_X0_proofBits : yX0_proofBits.cls = RX0 ∧ yX0_proofBits.cls ≠ "java/lang/invoke/MethodHandle" ∧ yX0_proofBits.cls ≠ "java/lang/invoke/VarHandle" ∧ (parseMethodDescriptor yX0_proofBits.desc).map (fun d => d.parameters.length) = some 1 := by decide +kernel
abbrev rmX0_proofBits : Room := { frames := 1, cells := 0, slots := 0, locals := 24 }
def fX0_proofBits_L4_J31 (o : Nat) (z : CS) (l1 : Nat) (l2 : Int32) (l3 : Int32) : Option ((Int32 × Int32) ⊕ Int32) :=
  some (.inl (l2, (l3 + (1 : Int32))))
def fX0_proofBits_L4 (o : Nat) (z : CS) (l1 : Nat) (l2 : Int32) (l3 : Int32) : Option ((Int32 × Int32) ⊕ Int32) :=
  (dT z l1).bind fun t1 =>
  (t1.2.2.2).bind fun ad2 =>
  (lnB z ad2).bind fun v3 =>
  if v3 ≤ l3 then
    some (.inr l2)
  else
    (aI 256 (z.2.1 9) l3).bind fun v4 =>
    if v4 = 0 then
      (fJ6_bitCount_0f7a4 l3).bind fun q5 =>
      fX0_proofBits_L4_J31 o z l1 (if l2 < q5 then q5 else l2) l3
    else
      fX0_proofBits_L4_J31 o z l1 l2 l3
def fX0_proofBits (o : Nat) (z : CS) (a1 : Nat) : Option (Int32) :=
  (lpN (fun u => fX0_proofBits_L4 o z a1 u.1 u.2) bigN ((0 : Int32), (0 : Int32))).bind fun e6 =>
  (dT z a1).bind fun t7 =>
  some (t7.2.1 - e6)
set_option maxHeartbeats 4000000 in
set_option maxRecDepth 100000 in
theorem tX0_proofBits_L4 {κ : KK} {p : Program} {l : Launch} {e : Env} {s : State} {m : MethodId} {args : Array Value} {below : List Frame} {meth : Method} {c : Code} (C : Cx κ p s m args meth c cX0_proofBits 4 RX0 (some .int)) {o : Nat} {v : Option Value} {B' : Heap → Prop} {z : CS} {l1 : Nat} {l2 : Int32} {l3 : Int32} {y : (Int32 × Int32) ⊕ Int32} (h : fX0_proofBits_L4 o z l1 l2 l3 = some y) (kc : ∀ u, y = .inl u → GC κ p l e s m args below meth c rmX0_proofBits 4 o v B' 0 0 z 4 [(0, .ref (o + 16)), (1, .ref l1), (2, .int u.1), (3, .int u.2)] []) (kx : ∀ w, y = .inr w → GC κ p l e s m args below meth c rmX0_proofBits 4 o v B' 0 0 z 37 [(1, .ref l1), (2, .int w)] []) : GC κ p l e s m args below meth c rmX0_proofBits 4 o v B' 0 0 z 4 [(0, .ref (o + 16)), (1, .ref l1), (2, .int l2), (3, .int l3)] [] := by
  have J31 : ∀ (l2 : Int32) (l3 : Int32), fX0_proofBits_L4_J31 o z l1 l2 l3 = some y → GC κ p l e s m args below meth c rmX0_proofBits 4 o v B' 0 0 z 31 [(0, .ref (o + 16)), (1, .ref l1), (2, .int l2), (3, .int l3)] [] := by
    intro l2 l3 h
    unfold fX0_proofBits_L4_J31 at h
    refine G_iinc (pc' := 34) C dX0_proofBits_31 3 rfl rfl [(3, .int (l3 + (1 : Int32))), (0, .ref (o + 16)), (1, .ref l1), (2, .int l2)] (by decide) rfl rfl ?_
    refine G_goto (tgt := 4) C dX0_proofBits_34 (by decide) ?_
    exact G_sub (lv' := [(0, .ref (o + 16)), (1, .ref l1), (2, .int l2), (3, .int (l3 + (1 : Int32)))]) [1, 2, 3, 0] rfl (kc (l2, (l3 + (1 : Int32))) (Option.some.inj h).symm)
  unfold fX0_proofBits_L4 at h
  refine G_iload_n (pc' := 5) C dX0_proofBits_4 3 rfl rfl ?_
  refine G_aload_n (pc' := 6) C dX0_proofBits_5 1 rfl rfl ?_
  replace h := ob h
  obtain ⟨t1, ht1, h⟩ := h
  refine G_get (pc' := 9) (k := 3) C fi_X8 dX0_proofBits_6 tw_fl_X0_37 rfl (by decide) (CB_T ht1) rfl rfl ?_
  replace h := ob h
  obtain ⟨ad2, had2, h⟩ := h
  rw [had2]
  replace h := ob h
  obtain ⟨v3, hv3, h⟩ := h
  refine P_lenB (pc' := 10) C dX0_proofBits_9 hv3 rfl ?_
  refine G_icmp_ge (tgt := 37) (pc' := 13) C dX0_proofBits_10 (by decide) rfl (fun hc => ?_) (fun hc => ?_)
  · replace h := z_ip hc h
    exact G_sub (lv' := [(1, .ref l1), (2, .int l2)]) [1, 2] rfl (kx _ (Option.some.inj h).symm)
  · replace h := z_in hc h
    refine G_aload_n (pc' := 14) C dX0_proofBits_13 0 rfl rfl ?_
    refine G_get (pc' := 17) (k := 0) C fi_X0 dX0_proofBits_14 tw_fl_X0_9 rfl (by decide) (CB_rd 16 rfl) rfl rfl ?_
    refine G_iload_n (pc' := 18) C dX0_proofBits_17 3 rfl rfl ?_
    replace h := ob h
    obtain ⟨v4, hv4, h⟩ := h
    refine G_zaldV (pc' := 19) C dX0_proofBits_18 (CB_rd 17 rfl) hv4 rfl ?_
    refine G_if_ne (tgt := 31) (pc' := 22) C dX0_proofBits_19 (by decide) rfl (fun hc => ?_) (fun hc => ?_)
    · replace h := z_in hc h
      exact G_sub (lv' := [(0, .ref (o + 16)), (1, .ref l1), (2, .int l2), (3, .int l3)]) [0, 1, 2, 3] rfl (J31 l2 l3 h)
    · replace h := z_ip hc h
      refine G_iload_n (pc' := 23) C dX0_proofBits_22 2 rfl rfl ?_
      refine G_iload_n (pc' := 24) C dX0_proofBits_23 3 rfl rfl ?_
      replace h := ob h
      obtain ⟨q5, hq5, h⟩ := h
      refine G_cS0 (pc' := 27) C dX0_proofBits_24 (tJ6_bitCount_0f7a4 κ l (CA o) (CB κ o z) l3 q5 hq5) (wS tw_ml_X0_60 tw_st_J6_bitCount_0f7a4 tw_co_J6_bitCount_0f7a4 tw_in_J6) yd_J6_bitCount_0f7a4 rfl rfl rfl (by decide) rfl (Nat.le_of_ble_eq_true rfl) rfl rfl ?_
      refine G_mmax (pc' := 30) C dX0_proofBits_27 tw_ml_X0_54 (by decide) rfl ?_
      refine G_istore_n (pc' := 31) C dX0_proofBits_30 [(2, .int (if l2 < q5 then q5 else l2)), (0, .ref (o + 16)), (1, .ref l1), (3, .int l3)] (by decide) rfl rfl ?_
      exact G_sub (lv' := [(0, .ref (o + 16)), (1, .ref l1), (2, .int (if l2 < q5 then q5 else l2)), (3, .int l3)]) [1, 2, 0, 3] rfl (J31 (if l2 < q5 then q5 else l2) l3 h)
set_option maxHeartbeats 4000000 in
set_option maxRecDepth 100000 in
theorem tX0_proofBits (κ : KK) (l : Launch) (o : Nat) (z : CS) (a1 : Nat) (q : Int32) (h : fX0_proofBits o z a1 = some q) : MM κ l yX0_proofBits cX0_proofBits 4 (some .int) rmX0_proofBits (CA o) [.ref (o + 16), .ref a1] (CB κ o z) (some (Value.int q)) (CB κ o z) := by
  refine MM.of (by decide +kernel) (Nat.le_of_ble_eq_true rfl) ?_
  intro p e s m below meth c C hnm
  unfold fX0_proofBits at h
  refine G_sub (lv' := [(0, .ref (o + 16)), (1, .ref a1)]) [0, 1] rfl ?_
  refine G_iconst (pc' := 1) (v := (0 : Int32)) C dX0_proofBits_0 (by decide) rfl ?_
  refine G_istore_n (pc' := 2) C dX0_proofBits_1 [(2, .int (0 : Int32)), (0, .ref (o + 16)), (1, .ref a1)] (by decide) rfl rfl ?_
  refine G_iconst (pc' := 3) (v := (0 : Int32)) C dX0_proofBits_2 (by decide) rfl ?_
  refine G_istore_n (pc' := 4) C dX0_proofBits_3 [(3, .int (0 : Int32)), (2, .int (0 : Int32)), (0, .ref (o + 16)), (1, .ref a1)] (by decide) rfl rfl ?_
  replace h := ob h
  obtain ⟨e6, hle6, h⟩ := h
  refine G_sub (lv' := [(0, .ref (o + 16)), (1, .ref a1), (2, .int (0 : Int32)), (3, .int (0 : Int32))]) [2, 3, 1, 0] rfl ?_
  refine lpN_ind (body := fun u => fX0_proofBits_L4 o z a1 u.1 u.2) (P := fun u => GC κ p l e s m ([.ref (o + 16), .ref a1] : List Value).toArray below meth c rmX0_proofBits 4 o (some (Value.int q)) (CB κ o z) 0 0 z 4 [(0, .ref (o + 16)), (1, .ref a1), (2, .int u.1), (3, .int u.2)] []) (X := fun w => GC κ p l e s m ([.ref (o + 16), .ref a1] : List Value).toArray below meth c rmX0_proofBits 4 o (some (Value.int q)) (CB κ o z) 0 0 z 37 [(1, .ref a1), (2, .int w)] []) (fun u y hb kc kx => tX0_proofBits_L4 C hb kc kx) _ _ _ hle6 ?_
  refine G_aload_n (pc' := 38) C dX0_proofBits_37 0 rfl rfl ?_
  replace h := ob h
  obtain ⟨t7, ht7, h⟩ := h
  refine G_get (pc' := 41) (k := 1) C fi_X8 dX0_proofBits_38 tw_fl_X0_43 rfl (by decide) (CB_T ht7) rfl rfl ?_
  refine G_iload_n (pc' := 42) C dX0_proofBits_41 1 rfl rfl ?_
  refine G_isub (pc' := 43) C dX0_proofBits_42 rfl ?_
  obtain rfl := Option.some.inj h
  exact G_iret C dX0_proofBits_43 (fun _ h => h)
theorem dX0_blocksApart_0 : decode cX0_blocksApart 0 = .ok (.aload_n 1, 1) := by decide +kernel
theorem dX0_blocksApart_1 : decode cX0_blocksApart 1 = .ok (.getfield 37, 3) := by decide +kernel
theorem dX0_blocksApart_4 : decode cX0_blocksApart 4 = .ok (.arraylength, 1) := by decide +kernel
theorem dX0_blocksApart_5 : decode cX0_blocksApart 5 = .ok (.istore_n 2, 1) := by decide +kernel
theorem dX0_blocksApart_6 : decode cX0_blocksApart 6 = .ok (.iconst 0, 1) := by decide +kernel
theorem dX0_blocksApart_7 : decode cX0_blocksApart 7 = .ok (.istore_n 3, 1) := by decide +kernel
theorem dX0_blocksApart_8 : decode cX0_blocksApart 8 = .ok (.iload_n 3, 1) := by decide +kernel
theorem dX0_blocksApart_9 : decode cX0_blocksApart 9 = .ok (.iload_n 2, 1) := by decide +kernel
theorem dX0_blocksApart_10 : decode cX0_blocksApart 10 = .ok (.if_icmp .ge 86, 3) := by decide +kernel
theorem dX0_blocksApart_13 : decode cX0_blocksApart 13 = .ok (.iconst 0, 1) := by decide +kernel
theorem dX0_blocksApart_14 : decode cX0_blocksApart 14 = .ok (.istore 4, 2) := by decide +kernel
theorem dX0_blocksApart_16 : decode cX0_blocksApart 16 = .ok (.iconst 0, 1) := by decide +kernel
theorem dX0_blocksApart_17 : decode cX0_blocksApart 17 = .ok (.istore 5, 2) := by decide +kernel
theorem dX0_blocksApart_19 : decode cX0_blocksApart 19 = .ok (.iload 5, 2) := by decide +kernel
theorem dX0_blocksApart_21 : decode cX0_blocksApart 21 = .ok (.aload_n 0, 1) := by decide +kernel
theorem dX0_blocksApart_22 : decode cX0_blocksApart 22 = .ok (.getfield 51, 3) := by decide +kernel
theorem dX0_blocksApart_25 : decode cX0_blocksApart 25 = .ok (.if_icmp .ge 57, 3) := by decide +kernel
theorem dX0_blocksApart_28 : decode cX0_blocksApart 28 = .ok (.aload_n 0, 1) := by decide +kernel
theorem dX0_blocksApart_29 : decode cX0_blocksApart 29 = .ok (.getfield 15, 3) := by decide +kernel
theorem dX0_blocksApart_32 : decode cX0_blocksApart 32 = .ok (.iload 5, 2) := by decide +kernel
theorem dX0_blocksApart_34 : decode cX0_blocksApart 34 = .ok (.iaload, 1) := by decide +kernel
theorem dX0_blocksApart_35 : decode cX0_blocksApart 35 = .ok (.iload_n 3, 1) := by decide +kernel
theorem dX0_blocksApart_36 : decode cX0_blocksApart 36 = .ok (.if_icmp .gt 46, 3) := by decide +kernel
theorem dX0_blocksApart_39 : decode cX0_blocksApart 39 = .ok (.aload_n 0, 1) := by decide +kernel
theorem dX0_blocksApart_40 : decode cX0_blocksApart 40 = .ok (.getfield 15, 3) := by decide +kernel
theorem dX0_blocksApart_43 : decode cX0_blocksApart 43 = .ok (.iload 5, 2) := by decide +kernel
theorem dX0_blocksApart_45 : decode cX0_blocksApart 45 = .ok (.iaload, 1) := by decide +kernel
theorem dX0_blocksApart_46 : decode cX0_blocksApart 46 = .ok (.iload_n 3, 1) := by decide +kernel
theorem dX0_blocksApart_47 : decode cX0_blocksApart 47 = .ok (.iconst (-1), 1) := by decide +kernel
theorem dX0_blocksApart_48 : decode cX0_blocksApart 48 = .ok (.ixor, 1) := by decide +kernel
theorem dX0_blocksApart_49 : decode cX0_blocksApart 49 = .ok (.iand, 1) := by decide +kernel
theorem dX0_blocksApart_50 : decode cX0_blocksApart 50 = .ok (.ifCond .ne 26, 3) := by decide +kernel
theorem dX0_blocksApart_53 : decode cX0_blocksApart 53 = .ok (.iload 4, 2) := by decide +kernel
theorem dX0_blocksApart_55 : decode cX0_blocksApart 55 = .ok (.aload_n 0, 1) := by decide +kernel
theorem dX0_blocksApart_56 : decode cX0_blocksApart 56 = .ok (.getfield 19, 3) := by decide +kernel
theorem dX0_blocksApart_59 : decode cX0_blocksApart 59 = .ok (.iload_n 3, 1) := by decide +kernel
theorem dX0_blocksApart_60 : decode cX0_blocksApart 60 = .ok (.aload_n 0, 1) := by decide +kernel
theorem dX0_blocksApart_61 : decode cX0_blocksApart 61 = .ok (.getfield 15, 3) := by decide +kernel
theorem dX0_blocksApart_64 : decode cX0_blocksApart 64 = .ok (.iload 5, 2) := by decide +kernel
theorem dX0_blocksApart_66 : decode cX0_blocksApart 66 = .ok (.iaload, 1) := by decide +kernel
theorem dX0_blocksApart_67 : decode cX0_blocksApart 67 = .ok (.ixor, 1) := by decide +kernel
theorem dX0_blocksApart_68 : decode cX0_blocksApart 68 = .ok (.iaload, 1) := by decide +kernel
theorem dX0_blocksApart_69 : decode cX0_blocksApart 69 = .ok (.iconst 1, 1) := by decide +kernel
theorem dX0_blocksApart_70 : decode cX0_blocksApart 70 = .ok (.iadd, 1) := by decide +kernel
theorem dX0_blocksApart_71 : decode cX0_blocksApart 71 = .ok (.invokestatic 54, 3) := by decide +kernel
theorem dX0_blocksApart_74 : decode cX0_blocksApart 74 = .ok (.istore 4, 2) := by decide +kernel
theorem dX0_blocksApart_76 : decode cX0_blocksApart 76 = .ok (.iinc 5 1, 3) := by decide +kernel
theorem dX0_blocksApart_79 : decode cX0_blocksApart 79 = .ok (.goto (-60), 3) := by decide +kernel
theorem dX0_blocksApart_82 : decode cX0_blocksApart 82 = .ok (.aload_n 0, 1) := by decide +kernel
theorem dX0_blocksApart_83 : decode cX0_blocksApart 83 = .ok (.getfield 19, 3) := by decide +kernel
theorem dX0_blocksApart_86 : decode cX0_blocksApart 86 = .ok (.iload_n 3, 1) := by decide +kernel
theorem dX0_blocksApart_87 : decode cX0_blocksApart 87 = .ok (.iload 4, 2) := by decide +kernel
theorem dX0_blocksApart_89 : decode cX0_blocksApart 89 = .ok (.iastore, 1) := by decide +kernel
theorem dX0_blocksApart_90 : decode cX0_blocksApart 90 = .ok (.iinc 3 1, 3) := by decide +kernel
theorem dX0_blocksApart_93 : decode cX0_blocksApart 93 = .ok (.goto (-85), 3) := by decide +kernel
theorem dX0_blocksApart_96 : decode cX0_blocksApart 96 = .ok (.aload_n 0, 1) := by decide +kernel
theorem dX0_blocksApart_97 : decode cX0_blocksApart 97 = .ok (.getfield 19, 3) := by decide +kernel
theorem dX0_blocksApart_100 : decode cX0_blocksApart 100 = .ok (.iload_n 2, 1) := by decide +kernel
theorem dX0_blocksApart_101 : decode cX0_blocksApart 101 = .ok (.iconst 1, 1) := by decide +kernel
theorem dX0_blocksApart_102 : decode cX0_blocksApart 102 = .ok (.isub, 1) := by decide +kernel
theorem dX0_blocksApart_103 : decode cX0_blocksApart 103 = .ok (.iaload, 1) := by decide +kernel
theorem dX0_blocksApart_104 : decode cX0_blocksApart 104 = .ok (.ireturn, 1) := by decide +kernel
theorem yd_X0_blocksApart : yX0_blocksApart.cls = RX0 ∧ yX0_blocksApart.cls ≠ "java/lang/invoke/MethodHandle" ∧ yX0_blocksApart.cls ≠ "java/lang/invoke/VarHandle" ∧ (parseMethodDescriptor yX0_blocksApart.desc).map (fun d => d.parameters.length) = some 1 := by decide +kernel
abbrev rmX0_blocksApart : Room := { frames := 1, cells := 0, slots := 0, locals := 24 }
def fX0_blocksApart_L19_J76 (o : Nat) (z : CS) (l2 : Int32) (l3 : Int32) (l4 : Int32) (l5 : Int32) : Option ((Int32 × Int32) ⊕ Int32) :=
  some (.inl (l4, (l5 + (1 : Int32))))
def fX0_blocksApart_L19 (o : Nat) (z : CS) (l2 : Int32) (l3 : Int32) (l4 : Int32) (l5 : Int32) : Option ((Int32 × Int32) ⊕ Int32) :=
  if (z.1 8) ≤ l5 then
    some (.inr l4)
  else
    (aI 256 (z.2.1 10) l5).bind fun v4 =>
    if l3 < v4 then
      some (.inr l4)
    else
      (aI 256 (z.2.1 10) l5).bind fun v5 =>
      if (v5 &&& (l3 ^^^ (-1 : Int32))) = 0 then
        (aI 256 (z.2.1 10) l5).bind fun v6 =>
        (aI 256 (z.2.1 11) (l3 ^^^ v6)).bind fun v7 =>
        fX0_blocksApart_L19_J76 o z l2 l3 (if l4 < (v7 + (1 : Int32)) then (v7 + (1 : Int32)) else l4) l5
      else
        fX0_blocksApart_L19_J76 o z l2 l3 l4 l5
def fX0_blocksApart_L8 (o : Nat) (z : CS) (l2 : Int32) (l3 : Int32) : Option ((Int32 × CS) ⊕ CS) :=
  if l2 ≤ l3 then
    some (.inr z)
  else
    (lpN (fun u => fX0_blocksApart_L19 o z l2 l3 u.1 u.2) bigN ((0 : Int32), (0 : Int32))).bind fun e8 =>
    (csA z 11 256 l3 e8).bind fun z9 =>
    some (.inl ((l3 + (1 : Int32)), z9))
def fX0_blocksApart (o : Nat) (z : CS) (a1 : Nat) : Option (Int32 × CS) :=
  (dT z a1).bind fun t1 =>
  (t1.2.2.2).bind fun ad2 =>
  (lnB z ad2).bind fun v3 =>
  (lpN (fun u => fX0_blocksApart_L8 o u.2 v3 u.1) bigN ((0 : Int32), z)).bind fun e10 =>
  (aI 256 (e10.2.1 11) (v3 - (1 : Int32))).bind fun v11 =>
  some (v11, e10)
set_option maxHeartbeats 4000000 in
set_option maxRecDepth 100000 in
theorem tX0_blocksApart_L19 {κ : KK} {p : Program} {l : Launch} {e : Env} {s : State} {m : MethodId} {args : Array Value} {below : List Frame} {meth : Method} {c : Code} (C : Cx κ p s m args meth c cX0_blocksApart 6 RX0 (some .int)) {o : Nat} {v : Option Value} {B' : Heap → Prop} {z : CS} {l2 : Int32} {l3 : Int32} {l4 : Int32} {l5 : Int32} {y : (Int32 × Int32) ⊕ Int32} (h : fX0_blocksApart_L19 o z l2 l3 l4 l5 = some y) (kc : ∀ u, y = .inl u → GC κ p l e s m args below meth c rmX0_blocksApart 6 o v B' 0 0 z 19 [(0, .ref (o + 16)), (2, .int l2), (3, .int l3), (4, .int u.1), (5, .int u.2)] []) (kx : ∀ w, y = .inr w → GC κ p l e s m args below meth c rmX0_blocksApart 6 o v B' 0 0 z 82 [(0, .ref (o + 16)), (2, .int l2), (3, .int l3), (4, .int w)] []) : GC κ p l e s m args below meth c rmX0_blocksApart 6 o v B' 0 0 z 19 [(0, .ref (o + 16)), (2, .int l2), (3, .int l3), (4, .int l4), (5, .int l5)] [] := by
  have J76 : ∀ (l4 : Int32) (l5 : Int32), fX0_blocksApart_L19_J76 o z l2 l3 l4 l5 = some y → GC κ p l e s m args below meth c rmX0_blocksApart 6 o v B' 0 0 z 76 [(0, .ref (o + 16)), (2, .int l2), (3, .int l3), (4, .int l4), (5, .int l5)] [] := by
    intro l4 l5 h
    unfold fX0_blocksApart_L19_J76 at h
    refine G_iinc (pc' := 79) C dX0_blocksApart_76 4 rfl rfl [(5, .int (l5 + (1 : Int32))), (0, .ref (o + 16)), (2, .int l2), (3, .int l3), (4, .int l4)] (by decide) rfl rfl ?_
    refine G_goto (tgt := 19) C dX0_blocksApart_79 (by decide) ?_
    exact G_sub (lv' := [(0, .ref (o + 16)), (2, .int l2), (3, .int l3), (4, .int l4), (5, .int (l5 + (1 : Int32)))]) [1, 2, 3, 4, 0] rfl (kc (l4, (l5 + (1 : Int32))) (Option.some.inj h).symm)
  unfold fX0_blocksApart_L19 at h
  refine G_iload (pc' := 21) C dX0_blocksApart_19 4 rfl rfl ?_
  refine G_aload_n (pc' := 22) C dX0_blocksApart_21 0 rfl rfl ?_
  refine G_get (pc' := 25) (k := 3) C fi_X0 dX0_blocksApart_22 tw_fl_X0_51 rfl (by decide) (CB_rd 16 rfl) rfl rfl ?_
  refine G_icmp_ge (tgt := 82) (pc' := 28) C dX0_blocksApart_25 (by decide) rfl (fun hc => ?_) (fun hc => ?_)
  · replace h := z_ip hc h
    exact G_sub (lv' := [(0, .ref (o + 16)), (2, .int l2), (3, .int l3), (4, .int l4)]) [0, 1, 2, 3] rfl (kx _ (Option.some.inj h).symm)
  · replace h := z_in hc h
    refine G_aload_n (pc' := 29) C dX0_blocksApart_28 0 rfl rfl ?_
    refine G_get (pc' := 32) (k := 1) C fi_X0 dX0_blocksApart_29 tw_fl_X0_15 rfl (by decide) (CB_rd 16 rfl) rfl rfl ?_
    refine G_iload (pc' := 34) C dX0_blocksApart_32 4 rfl rfl ?_
    replace h := ob h
    obtain ⟨v4, hv4, h⟩ := h
    refine G_ialdV (pc' := 35) C dX0_blocksApart_34 (CB_rd 18 rfl) hv4 rfl ?_
    refine G_iload_n (pc' := 36) C dX0_blocksApart_35 2 rfl rfl ?_
    refine G_icmp_gt (tgt := 82) (pc' := 39) C dX0_blocksApart_36 (by decide) rfl (fun hc => ?_) (fun hc => ?_)
    · replace h := z_ip hc h
      exact G_sub (lv' := [(0, .ref (o + 16)), (2, .int l2), (3, .int l3), (4, .int l4)]) [0, 1, 2, 3] rfl (kx _ (Option.some.inj h).symm)
    · replace h := z_in hc h
      refine G_aload_n (pc' := 40) C dX0_blocksApart_39 0 rfl rfl ?_
      refine G_get (pc' := 43) (k := 1) C fi_X0 dX0_blocksApart_40 tw_fl_X0_15 rfl (by decide) (CB_rd 16 rfl) rfl rfl ?_
      refine G_iload (pc' := 45) C dX0_blocksApart_43 4 rfl rfl ?_
      replace h := ob h
      obtain ⟨v5, hv5, h⟩ := h
      refine G_ialdV (pc' := 46) C dX0_blocksApart_45 (CB_rd 18 rfl) hv5 rfl ?_
      refine G_iload_n (pc' := 47) C dX0_blocksApart_46 2 rfl rfl ?_
      refine G_iconst (pc' := 48) (v := (-1 : Int32)) C dX0_blocksApart_47 (by decide) rfl ?_
      refine G_ixor (pc' := 49) C dX0_blocksApart_48 rfl ?_
      refine G_iand (pc' := 50) C dX0_blocksApart_49 rfl ?_
      refine G_if_ne (tgt := 76) (pc' := 53) C dX0_blocksApart_50 (by decide) rfl (fun hc => ?_) (fun hc => ?_)
      · replace h := z_in hc h
        exact G_sub (lv' := [(0, .ref (o + 16)), (2, .int l2), (3, .int l3), (4, .int l4), (5, .int l5)]) [0, 1, 2, 3, 4] rfl (J76 l4 l5 h)
      · replace h := z_ip hc h
        refine G_iload (pc' := 55) C dX0_blocksApart_53 3 rfl rfl ?_
        refine G_aload_n (pc' := 56) C dX0_blocksApart_55 0 rfl rfl ?_
        refine G_get (pc' := 59) (k := 2) C fi_X0 dX0_blocksApart_56 tw_fl_X0_19 rfl (by decide) (CB_rd 16 rfl) rfl rfl ?_
        refine G_iload_n (pc' := 60) C dX0_blocksApart_59 2 rfl rfl ?_
        refine G_aload_n (pc' := 61) C dX0_blocksApart_60 0 rfl rfl ?_
        refine G_get (pc' := 64) (k := 1) C fi_X0 dX0_blocksApart_61 tw_fl_X0_15 rfl (by decide) (CB_rd 16 rfl) rfl rfl ?_
        refine G_iload (pc' := 66) C dX0_blocksApart_64 4 rfl rfl ?_
        replace h := ob h
        obtain ⟨v6, hv6, h⟩ := h
        refine G_ialdV (pc' := 67) C dX0_blocksApart_66 (CB_rd 18 rfl) hv6 rfl ?_
        refine G_ixor (pc' := 68) C dX0_blocksApart_67 rfl ?_
        replace h := ob h
        obtain ⟨v7, hv7, h⟩ := h
        refine G_ialdV (pc' := 69) C dX0_blocksApart_68 (CB_rd 19 rfl) hv7 rfl ?_
        refine G_iconst (pc' := 70) (v := (1 : Int32)) C dX0_blocksApart_69 (by decide) rfl ?_
        refine G_iadd (pc' := 71) C dX0_blocksApart_70 rfl ?_
        refine G_mmax (pc' := 74) C dX0_blocksApart_71 tw_ml_X0_54 (by decide) rfl ?_
        refine G_istore (pc' := 76) C dX0_blocksApart_74 [(4, .int (if l4 < (v7 + (1 : Int32)) then (v7 + (1 : Int32)) else l4)), (0, .ref (o + 16)), (2, .int l2), (3, .int l3), (5, .int l5)] (by decide) rfl rfl ?_
        exact G_sub (lv' := [(0, .ref (o + 16)), (2, .int l2), (3, .int l3), (4, .int (if l4 < (v7 + (1 : Int32)) then (v7 + (1 : Int32)) else l4)), (5, .int l5)]) [1, 2, 3, 0, 4] rfl (J76 (if l4 < (v7 + (1 : Int32)) then (v7 + (1 : Int32)) else l4) l5 h)
set_option maxHeartbeats 4000000 in
set_option maxRecDepth 100000 in
theorem tX0_blocksApart_L8 {κ : KK} {p : Program} {l : Launch} {e : Env} {s : State} {m : MethodId} {args : Array Value} {below : List Frame} {meth : Method} {c : Code} (C : Cx κ p s m args meth c cX0_blocksApart 6 RX0 (some .int)) {o : Nat} {v : Option Value} {B' : Heap → Prop} {z : CS} {l2 : Int32} {l3 : Int32} {y : (Int32 × CS) ⊕ CS} (h : fX0_blocksApart_L8 o z l2 l3 = some y) (kc : ∀ u, y = .inl u → GC κ p l e s m args below meth c rmX0_blocksApart 6 o v B' 0 0 u.2 8 [(0, .ref (o + 16)), (2, .int l2), (3, .int u.1)] []) (kx : ∀ w, y = .inr w → GC κ p l e s m args below meth c rmX0_blocksApart 6 o v B' 0 0 w 96 [(0, .ref (o + 16)), (2, .int l2)] []) : GC κ p l e s m args below meth c rmX0_blocksApart 6 o v B' 0 0 z 8 [(0, .ref (o + 16)), (2, .int l2), (3, .int l3)] [] := by
  unfold fX0_blocksApart_L8 at h
  refine G_iload_n (pc' := 9) C dX0_blocksApart_8 2 rfl rfl ?_
  refine G_iload_n (pc' := 10) C dX0_blocksApart_9 1 rfl rfl ?_
  refine G_icmp_ge (tgt := 96) (pc' := 13) C dX0_blocksApart_10 (by decide) rfl (fun hc => ?_) (fun hc => ?_)
  · replace h := z_ip hc h
    exact G_sub (lv' := [(0, .ref (o + 16)), (2, .int l2)]) [0, 1] rfl (kx _ (Option.some.inj h).symm)
  · replace h := z_in hc h
    refine G_iconst (pc' := 14) (v := (0 : Int32)) C dX0_blocksApart_13 (by decide) rfl ?_
    refine G_istore (pc' := 16) C dX0_blocksApart_14 [(4, .int (0 : Int32)), (0, .ref (o + 16)), (2, .int l2), (3, .int l3)] (by decide) rfl rfl ?_
    refine G_iconst (pc' := 17) (v := (0 : Int32)) C dX0_blocksApart_16 (by decide) rfl ?_
    refine G_istore (pc' := 19) C dX0_blocksApart_17 [(5, .int (0 : Int32)), (4, .int (0 : Int32)), (0, .ref (o + 16)), (2, .int l2), (3, .int l3)] (by decide) rfl rfl ?_
    replace h := ob h
    obtain ⟨e8, hle8, h⟩ := h
    refine G_sub (lv' := [(0, .ref (o + 16)), (2, .int l2), (3, .int l3), (4, .int (0 : Int32)), (5, .int (0 : Int32))]) [2, 3, 4, 1, 0] rfl ?_
    refine lpN_ind (body := fun u => fX0_blocksApart_L19 o z l2 l3 u.1 u.2) (P := fun u => GC κ p l e s m args below meth c rmX0_blocksApart 6 o v B' 0 0 z 19 [(0, .ref (o + 16)), (2, .int l2), (3, .int l3), (4, .int u.1), (5, .int u.2)] []) (X := fun w => GC κ p l e s m args below meth c rmX0_blocksApart 6 o v B' 0 0 z 82 [(0, .ref (o + 16)), (2, .int l2), (3, .int l3), (4, .int w)] []) (fun u y hb kc kx => tX0_blocksApart_L19 C hb kc kx) _ _ _ hle8 ?_
    refine G_aload_n (pc' := 83) C dX0_blocksApart_82 0 rfl rfl ?_
    refine G_get (pc' := 86) (k := 2) C fi_X0 dX0_blocksApart_83 tw_fl_X0_19 rfl (by decide) (CB_rd 16 rfl) rfl rfl ?_
    refine G_iload_n (pc' := 87) C dX0_blocksApart_86 2 rfl rfl ?_
    refine G_iload (pc' := 89) C dX0_blocksApart_87 3 rfl rfl ?_
    replace h := ob h
    obtain ⟨z9, hz9, h⟩ := h
    refine C_s_19 (pc' := 90) C dX0_blocksApart_89 hz9 rfl ?_
    refine G_iinc (pc' := 93) C dX0_blocksApart_90 2 rfl rfl [(3, .int (l3 + (1 : Int32))), (0, .ref (o + 16)), (2, .int l2), (4, .int e8)] (by decide) rfl rfl ?_
    refine G_goto (tgt := 8) C dX0_blocksApart_93 (by decide) ?_
    exact G_sub (lv' := [(0, .ref (o + 16)), (2, .int l2), (3, .int (l3 + (1 : Int32)))]) [1, 2, 0] rfl (kc ((l3 + (1 : Int32)), z9) (Option.some.inj h).symm)
set_option maxHeartbeats 4000000 in
set_option maxRecDepth 100000 in
theorem tX0_blocksApart (κ : KK) (l : Launch) (o : Nat) (z : CS) (a1 : Nat) (q : Int32 × CS) (h : fX0_blocksApart o z a1 = some q) : MM κ l yX0_blocksApart cX0_blocksApart 6 (some .int) rmX0_blocksApart (CA o) [.ref (o + 16), .ref a1] (CB κ o z) (some (Value.int q.1)) (CB κ o q.2) := by
  refine MM.of (by decide +kernel) (Nat.le_of_ble_eq_true rfl) ?_
  intro p e s m below meth c C hnm
  unfold fX0_blocksApart at h
  refine G_sub (lv' := [(0, .ref (o + 16)), (1, .ref a1)]) [0, 1] rfl ?_
  refine G_aload_n (pc' := 1) C dX0_blocksApart_0 1 rfl rfl ?_
  replace h := ob h
  obtain ⟨t1, ht1, h⟩ := h
  refine G_get (pc' := 4) (k := 3) C fi_X8 dX0_blocksApart_1 tw_fl_X0_37 rfl (by decide) (CB_T ht1) rfl rfl ?_
  replace h := ob h
  obtain ⟨ad2, had2, h⟩ := h
  rw [had2]
  replace h := ob h
  obtain ⟨v3, hv3, h⟩ := h
  refine P_lenB (pc' := 5) C dX0_blocksApart_4 hv3 rfl ?_
  refine G_istore_n (pc' := 6) C dX0_blocksApart_5 [(2, .int v3), (0, .ref (o + 16)), (1, .ref a1)] (by decide) rfl rfl ?_
  refine G_iconst (pc' := 7) (v := (0 : Int32)) C dX0_blocksApart_6 (by decide) rfl ?_
  refine G_istore_n (pc' := 8) C dX0_blocksApart_7 [(3, .int (0 : Int32)), (2, .int v3), (0, .ref (o + 16)), (1, .ref a1)] (by decide) rfl rfl ?_
  replace h := ob h
  obtain ⟨e10, hle10, h⟩ := h
  refine G_sub (lv' := [(0, .ref (o + 16)), (2, .int v3), (3, .int (0 : Int32))]) [2, 1, 0] rfl ?_
  refine lpN_ind (body := fun u => fX0_blocksApart_L8 o u.2 v3 u.1) (P := fun u => GC κ p l e s m ([.ref (o + 16), .ref a1] : List Value).toArray below meth c rmX0_blocksApart 6 o (some (Value.int q.1)) (CB κ o q.2) 0 0 u.2 8 [(0, .ref (o + 16)), (2, .int v3), (3, .int u.1)] []) (X := fun w => GC κ p l e s m ([.ref (o + 16), .ref a1] : List Value).toArray below meth c rmX0_blocksApart 6 o (some (Value.int q.1)) (CB κ o q.2) 0 0 w 96 [(0, .ref (o + 16)), (2, .int v3)] []) (fun u y hb kc kx => tX0_blocksApart_L8 C hb kc kx) _ _ _ hle10 ?_
  refine G_aload_n (pc' := 97) C dX0_blocksApart_96 0 rfl rfl ?_
  refine G_get (pc' := 100) (k := 2) C fi_X0 dX0_blocksApart_97 tw_fl_X0_19 rfl (by decide) (CB_rd 16 rfl) rfl rfl ?_
  refine G_iload_n (pc' := 101) C dX0_blocksApart_100 1 rfl rfl ?_
  refine G_iconst (pc' := 102) (v := (1 : Int32)) C dX0_blocksApart_101 (by decide) rfl ?_
  refine G_isub (pc' := 103) C dX0_blocksApart_102 rfl ?_
  replace h := ob h
  obtain ⟨v11, hv11, h⟩ := h
  refine G_ialdV (pc' := 104) C dX0_blocksApart_103 (CB_rd 19 rfl) hv11 rfl ?_
  refine G_widen (k := rmX0_blocksApart.cells) (n := rmX0_blocksApart.slots) (by decide) (by decide) ?_
  obtain rfl := Option.some.inj h
  exact G_iret C dX0_blocksApart_104 (fun _ h => h)
theorem dX0_sensitiveBits_0 : decode cX0_sensitiveBits 0 = .ok (.iconst 0, 1) := by decide +kernel
theorem dX0_sensitiveBits_1 : decode cX0_sensitiveBits 1 = .ok (.istore_n 2, 1) := by decide +kernel
theorem dX0_sensitiveBits_2 : decode cX0_sensitiveBits 2 = .ok (.iconst 0, 1) := by decide +kernel
theorem dX0_sensitiveBits_3 : decode cX0_sensitiveBits 3 = .ok (.istore_n 3, 1) := by decide +kernel
theorem dX0_sensitiveBits_4 : decode cX0_sensitiveBits 4 = .ok (.iload_n 3, 1) := by decide +kernel
theorem dX0_sensitiveBits_5 : decode cX0_sensitiveBits 5 = .ok (.aload_n 0, 1) := by decide +kernel
theorem dX0_sensitiveBits_6 : decode cX0_sensitiveBits 6 = .ok (.getfield 43, 3) := by decide +kernel
theorem dX0_sensitiveBits_9 : decode cX0_sensitiveBits 9 = .ok (.if_icmp .ge 36, 3) := by decide +kernel
theorem dX0_sensitiveBits_12 : decode cX0_sensitiveBits 12 = .ok (.iload_n 2, 1) := by decide +kernel
theorem dX0_sensitiveBits_13 : decode cX0_sensitiveBits 13 = .ok (.aload_n 0, 1) := by decide +kernel
theorem dX0_sensitiveBits_14 : decode cX0_sensitiveBits 14 = .ok (.getfield 37, 3) := by decide +kernel
theorem dX0_sensitiveBits_17 : decode cX0_sensitiveBits 17 = .ok (.iload_n 1, 1) := by decide +kernel
theorem dX0_sensitiveBits_18 : decode cX0_sensitiveBits 18 = .ok (.baload, 1) := by decide +kernel
theorem dX0_sensitiveBits_19 : decode cX0_sensitiveBits 19 = .ok (.aload_n 0, 1) := by decide +kernel
theorem dX0_sensitiveBits_20 : decode cX0_sensitiveBits 20 = .ok (.getfield 37, 3) := by decide +kernel
theorem dX0_sensitiveBits_23 : decode cX0_sensitiveBits 23 = .ok (.iload_n 1, 1) := by decide +kernel
theorem dX0_sensitiveBits_24 : decode cX0_sensitiveBits 24 = .ok (.iconst 1, 1) := by decide +kernel
theorem dX0_sensitiveBits_25 : decode cX0_sensitiveBits 25 = .ok (.iload_n 3, 1) := by decide +kernel
theorem dX0_sensitiveBits_26 : decode cX0_sensitiveBits 26 = .ok (.ishl, 1) := by decide +kernel
theorem dX0_sensitiveBits_27 : decode cX0_sensitiveBits 27 = .ok (.ixor, 1) := by decide +kernel
theorem dX0_sensitiveBits_28 : decode cX0_sensitiveBits 28 = .ok (.baload, 1) := by decide +kernel
theorem dX0_sensitiveBits_29 : decode cX0_sensitiveBits 29 = .ok (.if_icmp .eq 7, 3) := by decide +kernel
theorem dX0_sensitiveBits_32 : decode cX0_sensitiveBits 32 = .ok (.iconst 1, 1) := by decide +kernel
theorem dX0_sensitiveBits_33 : decode cX0_sensitiveBits 33 = .ok (.goto 4, 3) := by decide +kernel
theorem dX0_sensitiveBits_36 : decode cX0_sensitiveBits 36 = .ok (.iconst 0, 1) := by decide +kernel
theorem dX0_sensitiveBits_37 : decode cX0_sensitiveBits 37 = .ok (.iadd, 1) := by decide +kernel
theorem dX0_sensitiveBits_38 : decode cX0_sensitiveBits 38 = .ok (.istore_n 2, 1) := by decide +kernel
theorem dX0_sensitiveBits_39 : decode cX0_sensitiveBits 39 = .ok (.iinc 3 1, 3) := by decide +kernel
theorem dX0_sensitiveBits_42 : decode cX0_sensitiveBits 42 = .ok (.goto (-38), 3) := by decide +kernel
theorem dX0_sensitiveBits_45 : decode cX0_sensitiveBits 45 = .ok (.iload_n 2, 1) := by decide +kernel
theorem dX0_sensitiveBits_46 : decode cX0_sensitiveBits 46 = .ok (.ireturn, 1) := by decide +kernel
theorem yd_X0_sensitiveBits : yX0_sensitiveBits.cls ≠ "java/lang/invoke/MethodHandle" ∧ yX0_sensitiveBits.cls ≠ "java/lang/invoke/VarHandle" ∧ (parseMethodDescriptor yX0_sensitiveBits.desc).map (fun d => d.parameters.length) = some 2 := by decide +kernel
abbrev rmX0_sensitiveBits : Room := { frames := 0, cells := 0, slots := 0, locals := 0 }
def fX0_sensitiveBits_L4_J37 (o : Nat) (z : CS) (l0 : Nat) (l1 : Int32) (l3 : Int32) (s0 : Int32) (s1 : Int32) : Option ((Int32 × Int32) ⊕ Int32) :=
  some (.inl ((s1 + s0), (l3 + (1 : Int32))))
def fX0_sensitiveBits_L4 (o : Nat) (z : CS) (l0 : Nat) (l1 : Int32) (l2 : Int32) (l3 : Int32) : Option ((Int32 × Int32) ⊕ Int32) :=
  (dT z l0).bind fun t1 =>
  if t1.2.1 ≤ l3 then
    some (.inr l2)
  else
    (dT z l0).bind fun t2 =>
    (t2.2.2.2).bind fun ad3 =>
    (rdB z ad3 l1).bind fun v4 =>
    (dT z l0).bind fun t5 =>
    (t5.2.2.2).bind fun ad6 =>
    (rdB z ad6 (l1 ^^^ ((1 : Int32) <<< (l3 &&& 31)))).bind fun v7 =>
    if v4 = v7 then
      fX0_sensitiveBits_L4_J37 o z l0 l1 l3 (0 : Int32) l2
    else
      fX0_sensitiveBits_L4_J37 o z l0 l1 l3 (1 : Int32) l2
def fX0_sensitiveBits (o : Nat) (z : CS) (a1 : Nat) (a2 : Int32) : Option (Int32) :=
  (lpN (fun u => fX0_sensitiveBits_L4 o z a1 a2 u.1 u.2) bigN ((0 : Int32), (0 : Int32))).bind fun e8 =>
  some e8
set_option maxHeartbeats 4000000 in
set_option maxRecDepth 100000 in
theorem tX0_sensitiveBits_L4 {κ : KK} {p : Program} {l : Launch} {e : Env} {s : State} {m : MethodId} {args : Array Value} {below : List Frame} {meth : Method} {c : Code} (C : Cx κ p s m args meth c cX0_sensitiveBits 4 RX0 (some .int)) {o : Nat} {v : Option Value} {B' : Heap → Prop} {z : CS} {l0 : Nat} {l1 : Int32} {l2 : Int32} {l3 : Int32} {y : (Int32 × Int32) ⊕ Int32} (h : fX0_sensitiveBits_L4 o z l0 l1 l2 l3 = some y) (kc : ∀ u, y = .inl u → GC κ p l e s m args below meth c rmX0_sensitiveBits 4 o v B' 0 0 z 4 [(0, .ref l0), (1, .int l1), (2, .int u.1), (3, .int u.2)] []) (kx : ∀ w, y = .inr w → GC κ p l e s m args below meth c rmX0_sensitiveBits 4 o v B' 0 0 z 45 [(2, .int w)] []) : GC κ p l e s m args below meth c rmX0_sensitiveBits 4 o v B' 0 0 z 4 [(0, .ref l0), (1, .int l1), (2, .int l2), (3, .int l3)] [] := by
  have J37 : ∀ (l3 : Int32) (s0 : Int32) (s1 : Int32), fX0_sensitiveBits_L4_J37 o z l0 l1 l3 s0 s1 = some y → GC κ p l e s m args below meth c rmX0_sensitiveBits 4 o v B' 0 0 z 37 [(0, .ref l0), (1, .int l1), (3, .int l3)] [.int s0, .int s1] := by
    intro l3 s0 s1 h
    unfold fX0_sensitiveBits_L4_J37 at h
    refine G_iadd (pc' := 38) C dX0_sensitiveBits_37 rfl ?_
    refine G_istore_n (pc' := 39) C dX0_sensitiveBits_38 [(2, .int (s1 + s0)), (0, .ref l0), (1, .int l1), (3, .int l3)] (by decide) rfl rfl ?_
    refine G_iinc (pc' := 42) C dX0_sensitiveBits_39 3 rfl rfl [(3, .int (l3 + (1 : Int32))), (2, .int (s1 + s0)), (0, .ref l0), (1, .int l1)] (by decide) rfl rfl ?_
    refine G_goto (tgt := 4) C dX0_sensitiveBits_42 (by decide) ?_
    exact G_sub (lv' := [(0, .ref l0), (1, .int l1), (2, .int (s1 + s0)), (3, .int (l3 + (1 : Int32)))]) [2, 3, 1, 0] rfl (kc ((s1 + s0), (l3 + (1 : Int32))) (Option.some.inj h).symm)
  unfold fX0_sensitiveBits_L4 at h
  refine G_iload_n (pc' := 5) C dX0_sensitiveBits_4 3 rfl rfl ?_
  refine G_aload_n (pc' := 6) C dX0_sensitiveBits_5 0 rfl rfl ?_
  replace h := ob h
  obtain ⟨t1, ht1, h⟩ := h
  refine G_get (pc' := 9) (k := 1) C fi_X8 dX0_sensitiveBits_6 tw_fl_X0_43 rfl (by decide) (CB_T ht1) rfl rfl ?_
  refine G_icmp_ge (tgt := 45) (pc' := 12) C dX0_sensitiveBits_9 (by decide) rfl (fun hc => ?_) (fun hc => ?_)
  · replace h := z_ip hc h
    exact G_sub (lv' := [(2, .int l2)]) [2] rfl (kx _ (Option.some.inj h).symm)
  · replace h := z_in hc h
    refine G_iload_n (pc' := 13) C dX0_sensitiveBits_12 2 rfl rfl ?_
    refine G_aload_n (pc' := 14) C dX0_sensitiveBits_13 0 rfl rfl ?_
    replace h := ob h
    obtain ⟨t2, ht2, h⟩ := h
    refine G_get (pc' := 17) (k := 3) C fi_X8 dX0_sensitiveBits_14 tw_fl_X0_37 rfl (by decide) (CB_T ht2) rfl rfl ?_
    refine G_iload_n (pc' := 18) C dX0_sensitiveBits_17 1 rfl rfl ?_
    replace h := ob h
    obtain ⟨ad3, had3, h⟩ := h
    rw [had3]
    replace h := ob h
    obtain ⟨v4, hv4, h⟩ := h
    refine P_bald (pc' := 19) C dX0_sensitiveBits_18 hv4 rfl ?_
    refine G_aload_n (pc' := 20) C dX0_sensitiveBits_19 0 rfl rfl ?_
    replace h := ob h
    obtain ⟨t5, ht5, h⟩ := h
    refine G_get (pc' := 23) (k := 3) C fi_X8 dX0_sensitiveBits_20 tw_fl_X0_37 rfl (by decide) (CB_T ht5) rfl rfl ?_
    refine G_iload_n (pc' := 24) C dX0_sensitiveBits_23 1 rfl rfl ?_
    refine G_iconst (pc' := 25) (v := (1 : Int32)) C dX0_sensitiveBits_24 (by decide) rfl ?_
    refine G_iload_n (pc' := 26) C dX0_sensitiveBits_25 3 rfl rfl ?_
    refine G_ishl (pc' := 27) C dX0_sensitiveBits_26 rfl ?_
    refine G_ixor (pc' := 28) C dX0_sensitiveBits_27 rfl ?_
    replace h := ob h
    obtain ⟨ad6, had6, h⟩ := h
    rw [had6]
    replace h := ob h
    obtain ⟨v7, hv7, h⟩ := h
    refine P_bald (pc' := 29) C dX0_sensitiveBits_28 hv7 rfl ?_
    refine G_icmp_eq (tgt := 36) (pc' := 32) C dX0_sensitiveBits_29 (by decide) rfl (fun hc => ?_) (fun hc => ?_)
    · replace h := z_ip hc h
      refine G_iconst (pc' := 37) (v := (0 : Int32)) C dX0_sensitiveBits_36 (by decide) rfl ?_
      exact G_sub (lv' := [(0, .ref l0), (1, .int l1), (3, .int l3)]) [0, 1, 3] rfl (J37 l3 (0 : Int32) l2 h)
    · replace h := z_in hc h
      refine G_iconst (pc' := 33) (v := (1 : Int32)) C dX0_sensitiveBits_32 (by decide) rfl ?_
      refine G_goto (tgt := 37) C dX0_sensitiveBits_33 (by decide) ?_
      exact G_sub (lv' := [(0, .ref l0), (1, .int l1), (3, .int l3)]) [0, 1, 3] rfl (J37 l3 (1 : Int32) l2 h)
set_option maxHeartbeats 4000000 in
set_option maxRecDepth 100000 in
theorem tX0_sensitiveBits (κ : KK) (l : Launch) (o : Nat) (z : CS) (a1 : Nat) (a2 : Int32) (q : Int32) (h : fX0_sensitiveBits o z a1 a2 = some q) : MM κ l yX0_sensitiveBits cX0_sensitiveBits 4 (some .int) rmX0_sensitiveBits (CA o) [.ref a1, .int a2] (CB κ o z) (some (Value.int q)) (CB κ o z) := by
  refine MM.of (by decide +kernel) (Nat.le_of_ble_eq_true rfl) ?_
  intro p e s m below meth c C hnm
  unfold fX0_sensitiveBits at h
  refine G_sub (lv' := [(0, .ref a1), (1, .int a2)]) [0, 1] rfl ?_
  refine G_iconst (pc' := 1) (v := (0 : Int32)) C dX0_sensitiveBits_0 (by decide) rfl ?_
  refine G_istore_n (pc' := 2) C dX0_sensitiveBits_1 [(2, .int (0 : Int32)), (0, .ref a1), (1, .int a2)] (by decide) rfl rfl ?_
  refine G_iconst (pc' := 3) (v := (0 : Int32)) C dX0_sensitiveBits_2 (by decide) rfl ?_
  refine G_istore_n (pc' := 4) C dX0_sensitiveBits_3 [(3, .int (0 : Int32)), (2, .int (0 : Int32)), (0, .ref a1), (1, .int a2)] (by decide) rfl rfl ?_
  replace h := ob h
  obtain ⟨e8, hle8, h⟩ := h
  refine G_sub (lv' := [(0, .ref a1), (1, .int a2), (2, .int (0 : Int32)), (3, .int (0 : Int32))]) [2, 3, 1, 0] rfl ?_
  refine lpN_ind (body := fun u => fX0_sensitiveBits_L4 o z a1 a2 u.1 u.2) (P := fun u => GC κ p l e s m ([.ref a1, .int a2] : List Value).toArray below meth c rmX0_sensitiveBits 4 o (some (Value.int q)) (CB κ o z) 0 0 z 4 [(0, .ref a1), (1, .int a2), (2, .int u.1), (3, .int u.2)] []) (X := fun w => GC κ p l e s m ([.ref a1, .int a2] : List Value).toArray below meth c rmX0_sensitiveBits 4 o (some (Value.int q)) (CB κ o z) 0 0 z 45 [(2, .int w)] []) (fun u y hb kc kx => tX0_sensitiveBits_L4 C hb kc kx) _ _ _ hle8 ?_
  refine G_iload_n (pc' := 46) C dX0_sensitiveBits_45 0 rfl rfl ?_
  obtain rfl := Option.some.inj h
  exact G_iret C dX0_sensitiveBits_46 (fun _ h => h)
theorem dX0_measure_0 : decode cX0_measure 0 = .ok (.iload_n 2, 1) := by decide +kernel
theorem dX0_measure_1 : decode cX0_measure 1 = .ok (.ifCond .ne 9, 3) := by decide +kernel
theorem dX0_measure_4 : decode cX0_measure 4 = .ok (.aload_n 1, 1) := by decide +kernel
theorem dX0_measure_5 : decode cX0_measure 5 = .ok (.iload_n 3, 1) := by decide +kernel
theorem dX0_measure_6 : decode cX0_measure 6 = .ok (.invokestatic 22, 3) := by decide +kernel
theorem dX0_measure_9 : decode cX0_measure 9 = .ok (.ireturn, 1) := by decide +kernel
theorem dX0_measure_10 : decode cX0_measure 10 = .ok (.aload_n 0, 1) := by decide +kernel
theorem dX0_measure_11 : decode cX0_measure 11 = .ok (.aload_n 1, 1) := by decide +kernel
theorem dX0_measure_12 : decode cX0_measure 12 = .ok (.iload_n 3, 1) := by decide +kernel
theorem dX0_measure_13 : decode cX0_measure 13 = .ok (.invokevirtual 26, 3) := by decide +kernel
theorem dX0_measure_16 : decode cX0_measure 16 = .ok (.iload_n 2, 1) := by decide +kernel
theorem dX0_measure_17 : decode cX0_measure 17 = .ok (.iconst 1, 1) := by decide +kernel
theorem dX0_measure_18 : decode cX0_measure 18 = .ok (.if_icmp .ne 11, 3) := by decide +kernel
theorem dX0_measure_21 : decode cX0_measure 21 = .ok (.aload_n 0, 1) := by decide +kernel
theorem dX0_measure_22 : decode cX0_measure 22 = .ok (.aload_n 1, 1) := by decide +kernel
theorem dX0_measure_23 : decode cX0_measure 23 = .ok (.invokevirtual 30, 3) := by decide +kernel
theorem dX0_measure_26 : decode cX0_measure 26 = .ok (.goto 8, 3) := by decide +kernel
theorem dX0_measure_29 : decode cX0_measure 29 = .ok (.aload_n 0, 1) := by decide +kernel
theorem dX0_measure_30 : decode cX0_measure 30 = .ok (.aload_n 1, 1) := by decide +kernel
theorem dX0_measure_31 : decode cX0_measure 31 = .ok (.invokevirtual 34, 3) := by decide +kernel
theorem dX0_measure_34 : decode cX0_measure 34 = .ok (.ireturn, 1) := by decide +kernel
theorem yd_X0_measure : yX0_measure.cls = RX0 ∧ yX0_measure.cls ≠ "java/lang/invoke/MethodHandle" ∧ yX0_measure.cls ≠ "java/lang/invoke/VarHandle" ∧ (parseMethodDescriptor yX0_measure.desc).map (fun d => d.parameters.length) = some 3 := by decide +kernel
abbrev rmX0_measure : Room := { frames := 2, cells := 0, slots := 0, locals := 49 }
def fX0_measure (o : Nat) (z : CS) (a1 : Nat) (a2 : Int32) (a3 : Int32) : Option (Int32 × CS) :=
  if a2 = 0 then
    (fX0_sensitiveBits o z a1 a3).bind fun q4 =>
    some (q4, z)
  else
    (fX0_load o z a1 a3).bind fun q1 =>
    if a2 = (1 : Int32) then
      (fX0_blocksApart o q1 a1).bind fun q3 =>
      some (q3.1, q3.2)
    else
      (fX0_proofBits o q1 a1).bind fun q2 =>
      some (q2, q1)
set_option maxHeartbeats 4000000 in
set_option maxRecDepth 100000 in
theorem tX0_measure (κ : KK) (l : Launch) (o : Nat) (z : CS) (a1 : Nat) (a2 : Int32) (a3 : Int32) (q : Int32 × CS) (h : fX0_measure o z a1 a2 a3 = some q) : MM κ l yX0_measure cX0_measure 4 (some .int) rmX0_measure (CA o) [.ref (o + 16), .ref a1, .int a2, .int a3] (CB κ o z) (some (Value.int q.1)) (CB κ o q.2) := by
  refine MM.of (by decide +kernel) (Nat.le_of_ble_eq_true rfl) ?_
  intro p e s m below meth c C hnm
  unfold fX0_measure at h
  refine G_sub (lv' := [(0, .ref (o + 16)), (1, .ref a1), (2, .int a2), (3, .int a3)]) [0, 1, 2, 3] rfl ?_
  refine G_iload_n (pc' := 1) C dX0_measure_0 2 rfl rfl ?_
  refine G_if_ne (tgt := 10) (pc' := 4) C dX0_measure_1 (by decide) rfl (fun hc => ?_) (fun hc => ?_)
  · replace h := z_in hc h
    refine G_aload_n (pc' := 11) C dX0_measure_10 0 rfl rfl ?_
    refine G_aload_n (pc' := 12) C dX0_measure_11 1 rfl rfl ?_
    refine G_iload_n (pc' := 13) C dX0_measure_12 3 rfl rfl ?_
    replace h := ob h
    obtain ⟨q1, hq1, h⟩ := h
    refine G_cV0 (pc' := 16) C dX0_measure_13 (tX0_load κ l o z a1 a3 q1 hq1) (wV tw_ml_X0_26 tw_im_X0_load tw_se_X0_X0_load tw_in_X0 tw_co_X0_load) yd_X0_load rfl fi_X0 (CB_rd 16 rfl) rfl rfl (by decide) rfl (Nat.le_of_ble_eq_true rfl) rfl rfl ?_
    refine G_iload_n (pc' := 17) C dX0_measure_16 2 rfl rfl ?_
    refine G_iconst (pc' := 18) (v := (1 : Int32)) C dX0_measure_17 (by decide) rfl ?_
    refine G_icmp_ne (tgt := 29) (pc' := 21) C dX0_measure_18 (by decide) rfl (fun hc => ?_) (fun hc => ?_)
    · replace h := z_in hc h
      refine G_aload_n (pc' := 30) C dX0_measure_29 0 rfl rfl ?_
      refine G_aload_n (pc' := 31) C dX0_measure_30 1 rfl rfl ?_
      replace h := ob h
      obtain ⟨q2, hq2, h⟩ := h
      refine G_cV0 (pc' := 34) C dX0_measure_31 (tX0_proofBits κ l o q1 a1 q2 hq2) (wV tw_ml_X0_34 tw_im_X0_proofBits tw_se_X0_X0_proofBits tw_in_X0 tw_co_X0_proofBits) yd_X0_proofBits rfl fi_X0 (CB_rd 16 rfl) rfl rfl (by decide) rfl (Nat.le_of_ble_eq_true rfl) rfl rfl ?_
      refine G_widen (k := rmX0_measure.cells) (n := rmX0_measure.slots) (by decide) (by decide) ?_
      obtain rfl := Option.some.inj h
      exact G_iret C dX0_measure_34 (fun _ h => h)
    · replace h := z_ip hc h
      refine G_aload_n (pc' := 22) C dX0_measure_21 0 rfl rfl ?_
      refine G_aload_n (pc' := 23) C dX0_measure_22 1 rfl rfl ?_
      replace h := ob h
      obtain ⟨q3, hq3, h⟩ := h
      refine G_cV0 (pc' := 26) C dX0_measure_23 (tX0_blocksApart κ l o q1 a1 q3 hq3) (wV tw_ml_X0_30 tw_im_X0_blocksApart tw_se_X0_X0_blocksApart tw_in_X0 tw_co_X0_blocksApart) yd_X0_blocksApart rfl fi_X0 (CB_rd 16 rfl) rfl rfl (by decide) rfl (Nat.le_of_ble_eq_true rfl) rfl rfl ?_
      refine G_goto (tgt := 34) C dX0_measure_26 (by decide) ?_
      refine G_widen (k := rmX0_measure.cells) (n := rmX0_measure.slots) (by decide) (by decide) ?_
      obtain rfl := Option.some.inj h
      exact G_iret C dX0_measure_34 (fun _ h => h)
  · replace h := z_ip hc h
    refine G_aload_n (pc' := 5) C dX0_measure_4 1 rfl rfl ?_
    refine G_iload_n (pc' := 6) C dX0_measure_5 3 rfl rfl ?_
    replace h := ob h
    obtain ⟨q4, hq4, h⟩ := h
    refine G_cS0 (pc' := 9) C dX0_measure_6 (tX0_sensitiveBits κ l o z a1 a3 q4 hq4) (wS tw_ml_X0_22 tw_st_X0_sensitiveBits tw_co_X0_sensitiveBits tw_in_X0) yd_X0_sensitiveBits rfl rfl rfl (by decide) rfl (Nat.le_of_ble_eq_true rfl) rfl rfl ?_
    refine G_widen (k := rmX0_measure.cells) (n := rmX0_measure.slots) (by decide) (by decide) ?_
    obtain rfl := Option.some.inj h
    exact G_iret C dX0_measure_9 (fun _ h => h)
