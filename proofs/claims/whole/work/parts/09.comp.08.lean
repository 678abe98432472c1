theorem dX9_pull_0 : decode cX9_pull 0 = .ok (.aload_n 0, 1) := by decide +kernel
theorem dX9_pull_1 : decode cX9_pull 1 = .ok (.iload_n 1, 1) := by decide +kernel
theorem dX9_pull_2 : decode cX9_pull 2 = .ok (.invokevirtual 261, 3) := by decide +kernel
theorem dX9_pull_5 : decode cX9_pull 5 = .ok (.istore_n 3, 1) := by decide +kernel
theorem dX9_pull_6 : decode cX9_pull 6 = .ok (.iload_n 3, 1) := by decide +kernel
theorem dX9_pull_7 : decode cX9_pull 7 = .ok (.ifCond .eq 5, 3) := by decide +kernel
theorem dX9_pull_10 : decode cX9_pull 10 = .ok (.iload_n 3, 1) := by decide +kernel
theorem dX9_pull_11 : decode cX9_pull 11 = .ok (.ireturn, 1) := by decide +kernel
theorem dX9_pull_12 : decode cX9_pull 12 = .ok (.aload_n 0, 1) := by decide +kernel
theorem dX9_pull_13 : decode cX9_pull 13 = .ok (.getfield 17, 3) := by decide +kernel
theorem dX9_pull_16 : decode cX9_pull 16 = .ok (.iload_n 1, 1) := by decide +kernel
theorem dX9_pull_17 : decode cX9_pull 17 = .ok (.aaload, 1) := by decide +kernel
theorem dX9_pull_18 : decode cX9_pull 18 = .ok (.astore 4, 2) := by decide +kernel
theorem dX9_pull_20 : decode cX9_pull 20 = .ok (.iload_n 2, 1) := by decide +kernel
theorem dX9_pull_21 : decode cX9_pull 21 = .ok (.ifCond .lt 12, 3) := by decide +kernel
theorem dX9_pull_24 : decode cX9_pull 24 = .ok (.iload_n 2, 1) := by decide +kernel
theorem dX9_pull_25 : decode cX9_pull 25 = .ok (.aload 4, 2) := by decide +kernel
theorem dX9_pull_27 : decode cX9_pull 27 = .ok (.getfield 152, 3) := by decide +kernel
theorem dX9_pull_30 : decode cX9_pull 30 = .ok (.if_icmp .lt 6, 3) := by decide +kernel
theorem dX9_pull_33 : decode cX9_pull 33 = .ok (.bipush (-2), 2) := by decide +kernel
theorem dX9_pull_35 : decode cX9_pull 35 = .ok (.ireturn, 1) := by decide +kernel
theorem dX9_pull_36 : decode cX9_pull 36 = .ok (.iconst 0, 1) := by decide +kernel
theorem dX9_pull_37 : decode cX9_pull 37 = .ok (.istore 5, 2) := by decide +kernel
theorem dX9_pull_39 : decode cX9_pull 39 = .ok (.iconst 0, 1) := by decide +kernel
theorem dX9_pull_40 : decode cX9_pull 40 = .ok (.istore 6, 2) := by decide +kernel
theorem dX9_pull_42 : decode cX9_pull 42 = .ok (.iload 6, 2) := by decide +kernel
theorem dX9_pull_44 : decode cX9_pull 44 = .ok (.aload 4, 2) := by decide +kernel
theorem dX9_pull_46 : decode cX9_pull 46 = .ok (.getfield 155, 3) := by decide +kernel
theorem dX9_pull_49 : decode cX9_pull 49 = .ok (.arraylength, 1) := by decide +kernel
theorem dX9_pull_50 : decode cX9_pull 50 = .ok (.if_icmp .ge 42, 3) := by decide +kernel
theorem dX9_pull_53 : decode cX9_pull 53 = .ok (.iload 5, 2) := by decide +kernel
theorem dX9_pull_55 : decode cX9_pull 55 = .ok (.aload 4, 2) := by decide +kernel
theorem dX9_pull_57 : decode cX9_pull 57 = .ok (.getfield 155, 3) := by decide +kernel
theorem dX9_pull_60 : decode cX9_pull 60 = .ok (.iload 6, 2) := by decide +kernel
theorem dX9_pull_62 : decode cX9_pull 62 = .ok (.baload, 1) := by decide +kernel
theorem dX9_pull_63 : decode cX9_pull 63 = .ok (.aload 4, 2) := by decide +kernel
theorem dX9_pull_65 : decode cX9_pull 65 = .ok (.getfield 155, 3) := by decide +kernel
theorem dX9_pull_68 : decode cX9_pull 68 = .ok (.iload 6, 2) := by decide +kernel
theorem dX9_pull_70 : decode cX9_pull 70 = .ok (.iconst 1, 1) := by decide +kernel
theorem dX9_pull_71 : decode cX9_pull 71 = .ok (.iload_n 2, 1) := by decide +kernel
theorem dX9_pull_72 : decode cX9_pull 72 = .ok (.ishl, 1) := by decide +kernel
theorem dX9_pull_73 : decode cX9_pull 73 = .ok (.ixor, 1) := by decide +kernel
theorem dX9_pull_74 : decode cX9_pull 74 = .ok (.baload, 1) := by decide +kernel
theorem dX9_pull_75 : decode cX9_pull 75 = .ok (.if_icmp .eq 7, 3) := by decide +kernel
theorem dX9_pull_78 : decode cX9_pull 78 = .ok (.iconst 1, 1) := by decide +kernel
theorem dX9_pull_79 : decode cX9_pull 79 = .ok (.goto 4, 3) := by decide +kernel
theorem dX9_pull_82 : decode cX9_pull 82 = .ok (.iconst 0, 1) := by decide +kernel
theorem dX9_pull_83 : decode cX9_pull 83 = .ok (.iadd, 1) := by decide +kernel
theorem dX9_pull_84 : decode cX9_pull 84 = .ok (.istore 5, 2) := by decide +kernel
theorem dX9_pull_86 : decode cX9_pull 86 = .ok (.iinc 6 1, 3) := by decide +kernel
theorem dX9_pull_89 : decode cX9_pull 89 = .ok (.goto (-47), 3) := by decide +kernel
theorem dX9_pull_92 : decode cX9_pull 92 = .ok (.iload 5, 2) := by decide +kernel
theorem dX9_pull_94 : decode cX9_pull 94 = .ok (.ireturn, 1) := by decide +kernel
theorem yd_X9_pull : yX9_pull.cls = RX9 ∧ yX9_pull.cls ≠ "java/lang/invoke/MethodHandle" ∧ yX9_pull.cls ≠ "java/lang/invoke/VarHandle" ∧ (parseMethodDescriptor yX9_pull.desc).map (fun d => d.parameters.length) = some 2 := by decide +kernel
abbrev rmX9_pull : Room := { frames := 3, cells := 0, slots := 0, locals := 64 }
def fX9_pull_L42_J83 (o : Nat) (z : CS) (l2 : Int32) (l4 : Nat) (l6 : Int32) (s0 : Int32) (s1 : Int32) : Option ((Int32 × Int32) ⊕ Int32) :=
  some (.inl ((s1 + s0), (l6 + (1 : Int32))))
def fX9_pull_L42 (o : Nat) (z : CS) (l2 : Int32) (l4 : Nat) (l5 : Int32) (l6 : Int32) : Option ((Int32 × Int32) ⊕ Int32) :=
  (dT z l4).bind fun t5 =>
  (t5.2.2.2).bind fun ad6 =>
  (lnB z ad6).bind fun v7 =>
  if v7 ≤ l6 then
    some (.inr l5)
  else
    (dT z l4).bind fun t8 =>
    (t8.2.2.2).bind fun ad9 =>
    (rdB z ad9 l6).bind fun v10 =>
    (dT z l4).bind fun t11 =>
    (t11.2.2.2).bind fun ad12 =>
    (rdB z ad12 (l6 ^^^ ((1 : Int32) <<< (l2 &&& 31)))).bind fun v13 =>
    if v10 = v13 then
      fX9_pull_L42_J83 o z l2 l4 l6 (0 : Int32) l5
    else
      fX9_pull_L42_J83 o z l2 l4 l6 (1 : Int32) l5
def fX9_pull_J33 (o : Nat) (z : CS) : Option (Int32 × CS) :=
  some ((-2 : Int32), z)
def fX9_pull (o : Nat) (z : CS) (a1 : Int32) (a2 : Int32) : Option (Int32 × CS) :=
  (fX9_findingOfTold o z a1).bind fun q1 =>
  if q1.1 = 0 then
    (aQ 8 (q1.2.2.2.1 1) a1).bind fun v2 =>
    if a2 < 0 then
      fX9_pull_J33 o q1.2
    else
      (v2).bind fun ad3 =>
      (dT q1.2 ad3).bind fun t4 =>
      if a2 < t4.2.1 then
        (lpN (fun u => fX9_pull_L42 o q1.2 a2 ad3 u.1 u.2) bigN ((0 : Int32), (0 : Int32))).bind fun e14 =>
        some (e14, q1.2)
      else
        fX9_pull_J33 o q1.2
  else
    some (q1.1, q1.2)
set_option maxHeartbeats 4000000 in
set_option maxRecDepth 100000 in
theorem tX9_pull_L42 {κ : KK} {p : Program} {l : Launch} {e : Env} {s : State} {m : MethodId} {args : Array Value} {below : List Frame} {meth : Method} {c : Code} (C : Cx κ p s m args meth c cX9_pull 7 RX9 (some .int)) {o : Nat} {v : Option Value} {B' : Heap → Prop} {z : CS} {l2 : Int32} {l4 : Nat} {l5 : Int32} {l6 : Int32} {y : (Int32 × Int32) ⊕ Int32} (h : fX9_pull_L42 o z l2 l4 l5 l6 = some y) (kc : ∀ u, y = .inl u → GC κ p l e s m args below meth c rmX9_pull 7 o v B' 0 0 z 42 [(2, .int l2), (4, .ref l4), (5, .int u.1), (6, .int u.2)] []) (kx : ∀ w, y = .inr w → GC κ p l e s m args below meth c rmX9_pull 7 o v B' 0 0 z 92 [(5, .int w)] []) : GC κ p l e s m args below meth c rmX9_pull 7 o v B' 0 0 z 42 [(2, .int l2), (4, .ref l4), (5, .int l5), (6, .int l6)] [] := by
  have J83 : ∀ (l6 : Int32) (s0 : Int32) (s1 : Int32), fX9_pull_L42_J83 o z l2 l4 l6 s0 s1 = some y → GC κ p l e s m args below meth c rmX9_pull 7 o v B' 0 0 z 83 [(2, .int l2), (4, .ref l4), (6, .int l6)] [.int s0, .int s1] := by
    intro l6 s0 s1 h
    unfold fX9_pull_L42_J83 at h
    refine G_iadd (pc' := 84) C dX9_pull_83 rfl ?_
    refine G_istore (pc' := 86) C dX9_pull_84 [(5, .int (s1 + s0)), (2, .int l2), (4, .ref l4), (6, .int l6)] (by decide) rfl rfl ?_
    refine G_iinc (pc' := 89) C dX9_pull_86 3 rfl rfl [(6, .int (l6 + (1 : Int32))), (5, .int (s1 + s0)), (2, .int l2), (4, .ref l4)] (by decide) rfl rfl ?_
    refine G_goto (tgt := 42) C dX9_pull_89 (by decide) ?_
    exact G_sub (lv' := [(2, .int l2), (4, .ref l4), (5, .int (s1 + s0)), (6, .int (l6 + (1 : Int32)))]) [2, 3, 1, 0] rfl (kc ((s1 + s0), (l6 + (1 : Int32))) (Option.some.inj h).symm)
  unfold fX9_pull_L42 at h
  refine G_iload (pc' := 44) C dX9_pull_42 3 rfl rfl ?_
  refine G_aload (pc' := 46) C dX9_pull_44 1 rfl rfl ?_
  replace h := ob h
  obtain ⟨t5, ht5, h⟩ := h
  refine G_get (pc' := 49) (k := 3) C fi_X8 dX9_pull_46 tw_fl_X9_155 rfl (by decide) (CB_T ht5) rfl rfl ?_
  replace h := ob h
  obtain ⟨ad6, had6, h⟩ := h
  rw [had6]
  replace h := ob h
  obtain ⟨v7, hv7, h⟩ := h
  refine P_lenB (pc' := 50) C dX9_pull_49 hv7 rfl ?_
  refine G_icmp_ge (tgt := 92) (pc' := 53) C dX9_pull_50 (by decide) rfl (fun hc => ?_) (fun hc => ?_)
  · replace h := z_ip hc h
    exact G_sub (lv' := [(5, .int l5)]) [2] rfl (kx _ (Option.some.inj h).symm)
  · replace h := z_in hc h
    refine G_iload (pc' := 55) C dX9_pull_53 2 rfl rfl ?_
    refine G_aload (pc' := 57) C dX9_pull_55 1 rfl rfl ?_
    replace h := ob h
    obtain ⟨t8, ht8, h⟩ := h
    refine G_get (pc' := 60) (k := 3) C fi_X8 dX9_pull_57 tw_fl_X9_155 rfl (by decide) (CB_T ht8) rfl rfl ?_
    refine G_iload (pc' := 62) C dX9_pull_60 3 rfl rfl ?_
    replace h := ob h
    obtain ⟨ad9, had9, h⟩ := h
    rw [had9]
    replace h := ob h
    obtain ⟨v10, hv10, h⟩ := h
    refine P_bald (pc' := 63) C dX9_pull_62 hv10 rfl ?_
    refine G_aload (pc' := 65) C dX9_pull_63 1 rfl rfl ?_
    replace h := ob h
    obtain ⟨t11, ht11, h⟩ := h
    refine G_get (pc' := 68) (k := 3) C fi_X8 dX9_pull_65 tw_fl_X9_155 rfl (by decide) (CB_T ht11) rfl rfl ?_
    refine G_iload (pc' := 70) C dX9_pull_68 3 rfl rfl ?_
    refine G_iconst (pc' := 71) (v := (1 : Int32)) C dX9_pull_70 (by decide) rfl ?_
    refine G_iload_n (pc' := 72) C dX9_pull_71 0 rfl rfl ?_
    refine G_ishl (pc' := 73) C dX9_pull_72 rfl ?_
    refine G_ixor (pc' := 74) C dX9_pull_73 rfl ?_
    replace h := ob h
    obtain ⟨ad12, had12, h⟩ := h
    rw [had12]
    replace h := ob h
    obtain ⟨v13, hv13, h⟩ := h
    refine P_bald (pc' := 75) C dX9_pull_74 hv13 rfl ?_
    refine G_icmp_eq (tgt := 82) (pc' := 78) C dX9_pull_75 (by decide) rfl (fun hc => ?_) (fun hc => ?_)
    · replace h := z_ip hc h
      refine G_iconst (pc' := 83) (v := (0 : Int32)) C dX9_pull_82 (by decide) rfl ?_
      exact G_sub (lv' := [(2, .int l2), (4, .ref l4), (6, .int l6)]) [0, 1, 3] rfl (J83 l6 (0 : Int32) l5 h)
    · replace h := z_in hc h
      refine G_iconst (pc' := 79) (v := (1 : Int32)) C dX9_pull_78 (by decide) rfl ?_
      refine G_goto (tgt := 83) C dX9_pull_79 (by decide) ?_
      exact G_sub (lv' := [(2, .int l2), (4, .ref l4), (6, .int l6)]) [0, 1, 3] rfl (J83 l6 (1 : Int32) l5 h)
set_option maxHeartbeats 4000000 in
set_option maxRecDepth 100000 in
theorem tX9_pull (κ : KK) (l : Launch) (o : Nat) (z : CS) (a1 : Int32) (a2 : Int32) (q : Int32 × CS) (h : fX9_pull o z a1 a2 = some q) : MM κ l yX9_pull cX9_pull 7 (some .int) rmX9_pull (CA o) [.ref o, .int a1, .int a2] (CB κ o z) (some (Value.int q.1)) (CB κ o q.2) := by
  refine MM.of (by decide +kernel) (Nat.le_of_ble_eq_true rfl) ?_
  intro p e s m below meth c C hnm
  have J33 : ∀ (z : CS), fX9_pull_J33 o z = some q → GC κ p l e s m ([.ref o, .int a1, .int a2] : List Value).toArray below meth c rmX9_pull 7 o (some (Value.int q.1)) (CB κ o q.2) 0 0 z 33 [] [] := by
    intro z h
    unfold fX9_pull_J33 at h
    refine G_bipush (pc' := 35) (v := (-2 : Int32)) C dX9_pull_33 (by decide) rfl ?_
    refine G_widen (k := rmX9_pull.cells) (n := rmX9_pull.slots) (by decide) (by decide) ?_
    obtain rfl := Option.some.inj h
    exact G_iret C dX9_pull_35 (fun _ h => h)
  unfold fX9_pull at h
  refine G_sub (lv' := [(0, .ref o), (1, .int a1), (2, .int a2)]) [0, 1, 2] rfl ?_
  refine G_aload_n (pc' := 1) C dX9_pull_0 0 rfl rfl ?_
  refine G_iload_n (pc' := 2) C dX9_pull_1 1 rfl rfl ?_
  replace h := ob h
  obtain ⟨q1, hq1, h⟩ := h
  refine G_cV0 (pc' := 5) C dX9_pull_2 (tX9_findingOfTold κ l o z a1 q1 hq1) (wV tw_ml_X9_261 tw_im_X9_findingOfTold tw_se_X9_X9_findingOfTold tw_in_X9 tw_co_X9_findingOfTold) yd_X9_findingOfTold rfl fi_X9 (CB_rd 0 rfl) rfl rfl (by decide) rfl (Nat.le_of_ble_eq_true rfl) rfl rfl ?_
  refine G_istore_n (pc' := 6) C dX9_pull_5 [(3, .int q1.1), (0, .ref o), (1, .int a1), (2, .int a2)] (by decide) rfl rfl ?_
  refine G_iload_n (pc' := 7) C dX9_pull_6 0 rfl rfl ?_
  refine G_if_eq (tgt := 12) (pc' := 10) C dX9_pull_7 (by decide) rfl (fun hc => ?_) (fun hc => ?_)
  · replace h := z_ip hc h
    refine G_aload_n (pc' := 13) C dX9_pull_12 1 rfl rfl ?_
    refine G_get (pc' := 16) (k := 1) C fi_X9 dX9_pull_13 tw_fl_X9_17 rfl (by decide) (CB_rd 0 rfl) rfl rfl ?_
    refine G_iload_n (pc' := 17) C dX9_pull_16 2 rfl rfl ?_
    replace h := ob h
    obtain ⟨v2, hv2, h⟩ := h
    refine G_aald5V (pc' := 18) C dX9_pull_17 (CB_rd 2 rfl) hv2 rfl ?_
    refine G_qstore (pc' := 20) C dX9_pull_18 [(4, va_rf v2), (3, .int q1.1), (0, .ref o), (1, .int a1), (2, .int a2)] (by decide) rfl rfl ?_
    refine G_iload_n (pc' := 21) C dX9_pull_20 4 rfl rfl ?_
    refine G_if_lt (tgt := 33) (pc' := 24) C dX9_pull_21 (by decide) rfl (fun hc => ?_) (fun hc => ?_)
    · replace h := z_ip hc h
      exact G_sub (lv' := []) [] rfl (J33 q1.2 h)
    · replace h := z_in hc h
      refine G_iload_n (pc' := 25) C dX9_pull_24 4 rfl rfl ?_
      refine G_qload (pc' := 27) C dX9_pull_25 0 rfl rfl ?_
      replace h := ob h
      obtain ⟨ad3, had3, h⟩ := h
      subst had3
      replace h := ob h
      obtain ⟨t4, ht4, h⟩ := h
      refine G_get (pc' := 30) (k := 1) C fi_X8 dX9_pull_27 tw_fl_X9_152 rfl (by decide) (CB_T ht4) rfl rfl ?_
      refine G_icmp_lt (tgt := 36) (pc' := 33) C dX9_pull_30 (by decide) rfl (fun hc => ?_) (fun hc => ?_)
      · replace h := z_ip hc h
        refine G_iconst (pc' := 37) (v := (0 : Int32)) C dX9_pull_36 (by decide) rfl ?_
        refine G_istore (pc' := 39) C dX9_pull_37 [(5, .int (0 : Int32)), (4, .ref ad3), (3, .int q1.1), (0, .ref o), (1, .int a1), (2, .int a2)] (by decide) rfl rfl ?_
        refine G_iconst (pc' := 40) (v := (0 : Int32)) C dX9_pull_39 (by decide) rfl ?_
        refine G_istore (pc' := 42) C dX9_pull_40 [(6, .int (0 : Int32)), (5, .int (0 : Int32)), (4, .ref ad3), (3, .int q1.1), (0, .ref o), (1, .int a1), (2, .int a2)] (by decide) rfl rfl ?_
        replace h := ob h
        obtain ⟨e14, hle14, h⟩ := h
        refine G_sub (lv' := [(2, .int a2), (4, .ref ad3), (5, .int (0 : Int32)), (6, .int (0 : Int32))]) [6, 2, 1, 0] rfl ?_
        refine lpN_ind (body := fun u => fX9_pull_L42 o q1.2 a2 ad3 u.1 u.2) (P := fun u => GC κ p l e s m ([.ref o, .int a1, .int a2] : List Value).toArray below meth c rmX9_pull 7 o (some (Value.int q.1)) (CB κ o q.2) 0 0 q1.2 42 [(2, .int a2), (4, .ref ad3), (5, .int u.1), (6, .int u.2)] []) (X := fun w => GC κ p l e s m ([.ref o, .int a1, .int a2] : List Value).toArray below meth c rmX9_pull 7 o (some (Value.int q.1)) (CB κ o q.2) 0 0 q1.2 92 [(5, .int w)] []) (fun u y hb kc kx => tX9_pull_L42 C hb kc kx) _ _ _ hle14 ?_
        refine G_iload (pc' := 94) C dX9_pull_92 0 rfl rfl ?_
        refine G_widen (k := rmX9_pull.cells) (n := rmX9_pull.slots) (by decide) (by decide) ?_
        obtain rfl := Option.some.inj h
        exact G_iret C dX9_pull_94 (fun _ h => h)
      · replace h := z_in hc h
        exact G_sub (lv' := []) [] rfl (J33 q1.2 h)
  · replace h := z_in hc h
    refine G_iload_n (pc' := 11) C dX9_pull_10 0 rfl rfl ?_
    refine G_widen (k := rmX9_pull.cells) (n := rmX9_pull.slots) (by decide) (by decide) ?_
    obtain rfl := Option.some.inj h
    exact G_iret C dX9_pull_11 (fun _ h => h)
theorem dX2_isIn_0 : decode cX2_isIn 0 = .ok (.iload_n 2, 1) := by decide +kernel
theorem dX2_isIn_1 : decode cX2_isIn 1 = .ok (.istore_n 3, 1) := by decide +kernel
theorem dX2_isIn_2 : decode cX2_isIn 2 = .ok (.iconst 0, 1) := by decide +kernel
theorem dX2_isIn_3 : decode cX2_isIn 3 = .ok (.istore 4, 2) := by decide +kernel
theorem dX2_isIn_5 : decode cX2_isIn 5 = .ok (.iload 4, 2) := by decide +kernel
theorem dX2_isIn_7 : decode cX2_isIn 7 = .ok (.iload_n 0, 1) := by decide +kernel
theorem dX2_isIn_8 : decode cX2_isIn 8 = .ok (.if_icmp .ge 37, 3) := by decide +kernel
theorem dX2_isIn_11 : decode cX2_isIn 11 = .ok (.iload_n 3, 1) := by decide +kernel
theorem dX2_isIn_12 : decode cX2_isIn 12 = .ok (.iconst 3, 1) := by decide +kernel
theorem dX2_isIn_13 : decode cX2_isIn 13 = .ok (.irem, 1) := by decide +kernel
theorem dX2_isIn_14 : decode cX2_isIn 14 = .ok (.istore 5, 2) := by decide +kernel
theorem dX2_isIn_16 : decode cX2_isIn 16 = .ok (.iload 5, 2) := by decide +kernel
theorem dX2_isIn_18 : decode cX2_isIn 18 = .ok (.iconst 2, 1) := by decide +kernel
theorem dX2_isIn_19 : decode cX2_isIn 19 = .ok (.if_icmp .eq 16, 3) := by decide +kernel
theorem dX2_isIn_22 : decode cX2_isIn 22 = .ok (.iload 5, 2) := by decide +kernel
theorem dX2_isIn_24 : decode cX2_isIn 24 = .ok (.iload_n 1, 1) := by decide +kernel
theorem dX2_isIn_25 : decode cX2_isIn 25 = .ok (.iload 4, 2) := by decide +kernel
theorem dX2_isIn_27 : decode cX2_isIn 27 = .ok (.ishr, 1) := by decide +kernel
theorem dX2_isIn_28 : decode cX2_isIn 28 = .ok (.iconst 1, 1) := by decide +kernel
theorem dX2_isIn_29 : decode cX2_isIn 29 = .ok (.iand, 1) := by decide +kernel
theorem dX2_isIn_30 : decode cX2_isIn 30 = .ok (.if_icmp .eq 5, 3) := by decide +kernel
theorem dX2_isIn_33 : decode cX2_isIn 33 = .ok (.iconst 0, 1) := by decide +kernel
theorem dX2_isIn_34 : decode cX2_isIn 34 = .ok (.ireturn, 1) := by decide +kernel
theorem dX2_isIn_35 : decode cX2_isIn 35 = .ok (.iload_n 3, 1) := by decide +kernel
theorem dX2_isIn_36 : decode cX2_isIn 36 = .ok (.iconst 3, 1) := by decide +kernel
theorem dX2_isIn_37 : decode cX2_isIn 37 = .ok (.idiv, 1) := by decide +kernel
theorem dX2_isIn_38 : decode cX2_isIn 38 = .ok (.istore_n 3, 1) := by decide +kernel
theorem dX2_isIn_39 : decode cX2_isIn 39 = .ok (.iinc 4 1, 3) := by decide +kernel
theorem dX2_isIn_42 : decode cX2_isIn 42 = .ok (.goto (-37), 3) := by decide +kernel
theorem dX2_isIn_45 : decode cX2_isIn 45 = .ok (.iconst 1, 1) := by decide +kernel
theorem dX2_isIn_46 : decode cX2_isIn 46 = .ok (.ireturn, 1) := by decide +kernel
theorem yd_X2_isIn : yX2_isIn.cls ≠ "java/lang/invoke/MethodHandle" ∧ yX2_isIn.cls ≠ "java/lang/invoke/VarHandle" ∧ (parseMethodDescriptor yX2_isIn.desc).map (fun d => d.parameters.length) = some 3 := by decide +kernel
abbrev rmX2_isIn : Room := { frames := 0, cells := 0, slots := 0, locals := 0 }
def fX2_isIn_L5_J35 (l0 : Int32) (l1 : Int32) (l3 : Int32) (l4 : Int32) : Option ((Int32 × Int32) ⊕ (Unit ⊕ Int32)) :=
  some (.inl ((l3 / (3 : Int32)), (l4 + (1 : Int32))))
def fX2_isIn_L5 (l0 : Int32) (l1 : Int32) (l3 : Int32) (l4 : Int32) : Option ((Int32 × Int32) ⊕ (Unit ⊕ Int32)) :=
  if l0 ≤ l4 then
    some (.inr (.inl ()))
  else
    if (l3 - l3 / (3 : Int32) * (3 : Int32)) = (2 : Int32) then
      fX2_isIn_L5_J35 l0 l1 l3 l4
    else
      if (l3 - l3 / (3 : Int32) * (3 : Int32)) = ((l1 >>> (l4 &&& 31)) &&& (1 : Int32)) then
        fX2_isIn_L5_J35 l0 l1 l3 l4
      else
        some (.inr (.inr (0 : Int32)))
def fX2_isIn (a1 : Int32) (a2 : Int32) (a3 : Int32) : Option (Int32) :=
  (lpN (fun u => fX2_isIn_L5 a1 a2 u.1 u.2) bigN (a3, (0 : Int32))).bind fun e1 =>
  sel e1 (fun x2 =>
    some (1 : Int32)
    ) (fun rt => some rt)
set_option maxHeartbeats 4000000 in
set_option maxRecDepth 100000 in
theorem tX2_isIn_L5 {κ : KK} {p : Program} {l : Launch} {e : Env} {s : State} {m : MethodId} {args : Array Value} {below : List Frame} {meth : Method} {c : Code} (C : Cx κ p s m args meth c cX2_isIn 6 RX2 (some .boolean)) {A : Nat → Prop} {B : Heap → Prop} {v : Option Value} {B' : Heap → Prop} {l0 : Int32} {l1 : Int32} {l3 : Int32} {l4 : Int32} {y : (Int32 × Int32) ⊕ (Unit ⊕ Int32)} (h : fX2_isIn_L5 l0 l1 l3 l4 = some y) (kc : ∀ u, y = .inl u → GT p l e s m args below meth c rmX2_isIn 6 A v B' B 5 [(0, .int l0), (1, .int l1), (3, .int u.1), (4, .int u.2)] []) (kx : ∀ w, y = .inr w → (∀ x, w = .inl x → GT p l e s m args below meth c rmX2_isIn 6 A v B' B 45 [] []) ∧ (∀ rt, w = .inr rt → v = (some (Value.int rt)) ∧ B' = B)) : GT p l e s m args below meth c rmX2_isIn 6 A v B' B 5 [(0, .int l0), (1, .int l1), (3, .int l3), (4, .int l4)] [] := by
  have J35 : ∀ (l3 : Int32) (l4 : Int32), fX2_isIn_L5_J35 l0 l1 l3 l4 = some y → GT p l e s m args below meth c rmX2_isIn 6 A v B' B 35 [(0, .int l0), (1, .int l1), (3, .int l3), (4, .int l4)] [] := by
    intro l3 l4 h
    unfold fX2_isIn_L5_J35 at h
    refine G_iload_n (pc' := 36) C dX2_isIn_35 2 rfl rfl ?_
    refine G_iconst (pc' := 37) (v := (3 : Int32)) C dX2_isIn_36 (by decide) rfl ?_
    refine G_idiv (pc' := 38) C dX2_isIn_37 (by decide) rfl ?_
    refine G_istore_n (pc' := 39) C dX2_isIn_38 [(3, .int (l3 / (3 : Int32))), (0, .int l0), (1, .int l1), (4, .int l4)] (by decide) rfl rfl ?_
    refine G_iinc (pc' := 42) C dX2_isIn_39 3 rfl rfl [(4, .int (l4 + (1 : Int32))), (3, .int (l3 / (3 : Int32))), (0, .int l0), (1, .int l1)] (by decide) rfl rfl ?_
    refine G_goto (tgt := 5) C dX2_isIn_42 (by decide) ?_
    exact G_sub (lv' := [(0, .int l0), (1, .int l1), (3, .int (l3 / (3 : Int32))), (4, .int (l4 + (1 : Int32)))]) [2, 3, 1, 0] rfl (kc ((l3 / (3 : Int32)), (l4 + (1 : Int32))) (Option.some.inj h).symm)
  unfold fX2_isIn_L5 at h
  refine G_iload (pc' := 7) C dX2_isIn_5 3 rfl rfl ?_
  refine G_iload_n (pc' := 8) C dX2_isIn_7 0 rfl rfl ?_
  refine G_icmp_ge (tgt := 45) (pc' := 11) C dX2_isIn_8 (by decide) rfl (fun hc => ?_) (fun hc => ?_)
  · replace h := z_ip hc h
    exact G_sub (lv' := []) [] rfl ((kx _ (Option.some.inj h).symm).1 _ rfl)
  · replace h := z_in hc h
    refine G_iload_n (pc' := 12) C dX2_isIn_11 2 rfl rfl ?_
    refine G_iconst (pc' := 13) (v := (3 : Int32)) C dX2_isIn_12 (by decide) rfl ?_
    refine G_irem (pc' := 14) C dX2_isIn_13 (by decide) rfl ?_
    refine G_istore (pc' := 16) C dX2_isIn_14 [(5, .int (l3 - l3 / (3 : Int32) * (3 : Int32))), (0, .int l0), (1, .int l1), (3, .int l3), (4, .int l4)] (by decide) rfl rfl ?_
    refine G_iload (pc' := 18) C dX2_isIn_16 0 rfl rfl ?_
    refine G_iconst (pc' := 19) (v := (2 : Int32)) C dX2_isIn_18 (by decide) rfl ?_
    refine G_icmp_eq (tgt := 35) (pc' := 22) C dX2_isIn_19 (by decide) rfl (fun hc => ?_) (fun hc => ?_)
    · replace h := z_ip hc h
      exact G_sub (lv' := [(0, .int l0), (1, .int l1), (3, .int l3), (4, .int l4)]) [1, 2, 3, 4] rfl (J35 l3 l4 h)
    · replace h := z_in hc h
      refine G_iload (pc' := 24) C dX2_isIn_22 0 rfl rfl ?_
      refine G_iload_n (pc' := 25) C dX2_isIn_24 2 rfl rfl ?_
      refine G_iload (pc' := 27) C dX2_isIn_25 4 rfl rfl ?_
      refine G_ishr (pc' := 28) C dX2_isIn_27 rfl ?_
      refine G_iconst (pc' := 29) (v := (1 : Int32)) C dX2_isIn_28 (by decide) rfl ?_
      refine G_iand (pc' := 30) C dX2_isIn_29 rfl ?_
      refine G_icmp_eq (tgt := 35) (pc' := 33) C dX2_isIn_30 (by decide) rfl (fun hc => ?_) (fun hc => ?_)
      · replace h := z_ip hc h
        exact G_sub (lv' := [(0, .int l0), (1, .int l1), (3, .int l3), (4, .int l4)]) [1, 2, 3, 4] rfl (J35 l3 l4 h)
      · replace h := z_in hc h
        refine G_iconst (pc' := 34) (v := (0 : Int32)) C dX2_isIn_33 (by decide) rfl ?_
        obtain ⟨hv, hB⟩ := (kx _ (Option.some.inj h).symm).2 _ rfl
        subst hv
        subst hB
        exact G_zret (v := (0 : Int32)) C rfl dX2_isIn_34 (fun _ h => h)
set_option maxHeartbeats 4000000 in
set_option maxRecDepth 100000 in
theorem tX2_isIn (κ : KK) (l : Launch) (A : Nat → Prop) (B : Heap → Prop) (a1 : Int32) (a2 : Int32) (a3 : Int32) (q : Int32) (h : fX2_isIn a1 a2 a3 = some q) : MM κ l yX2_isIn cX2_isIn 6 (some .boolean) rmX2_isIn A [.int a1, .int a2, .int a3] B (some (Value.int q)) B := by
  refine MM.of (by decide +kernel) (Nat.le_of_ble_eq_true rfl) ?_
  intro p e s m below meth c C hnm
  unfold fX2_isIn at h
  refine G_sub (lv' := [(0, .int a1), (1, .int a2), (2, .int a3)]) [0, 1, 2] rfl ?_
  refine G_iload_n (pc' := 1) C dX2_isIn_0 2 rfl rfl ?_
  refine G_istore_n (pc' := 2) C dX2_isIn_1 [(3, .int a3), (0, .int a1), (1, .int a2), (2, .int a3)] (by decide) rfl rfl ?_
  refine G_iconst (pc' := 3) (v := (0 : Int32)) C dX2_isIn_2 (by decide) rfl ?_
  refine G_istore (pc' := 5) C dX2_isIn_3 [(4, .int (0 : Int32)), (3, .int a3), (0, .int a1), (1, .int a2), (2, .int a3)] (by decide) rfl rfl ?_
  replace h := ob h
  obtain ⟨e1, hle1, h⟩ := h
  refine G_sub (lv' := [(0, .int a1), (1, .int a2), (3, .int a3), (4, .int (0 : Int32))]) [2, 3, 1, 0] rfl ?_
  refine lpN_ind (body := fun u => fX2_isIn_L5 a1 a2 u.1 u.2) (P := fun u => GT p l e s m ([.int a1, .int a2, .int a3] : List Value).toArray below meth c rmX2_isIn 6 A (some (Value.int q)) B B 5 [(0, .int a1), (1, .int a2), (3, .int u.1), (4, .int u.2)] []) (X := fun w => (∀ x, w = .inl x → GT p l e s m ([.int a1, .int a2, .int a3] : List Value).toArray below meth c rmX2_isIn 6 A (some (Value.int q)) B B 45 [] []) ∧ (∀ rt, w = .inr rt → (some (Value.int q)) = (some (Value.int rt)) ∧ B = B)) (fun u y hb kc kx => tX2_isIn_L5 C hb kc kx) _ _ _ hle1 ?_
  refine ⟨fun x2 hxx2 => ?_, fun rt hrt => ?_⟩
  · subst hxx2
    replace h := z_sl h
    refine G_iconst (pc' := 46) (v := (1 : Int32)) C dX2_isIn_45 (by decide) rfl ?_
    obtain rfl := Option.some.inj h
    exact G_zret (v := (1 : Int32)) C rfl dX2_isIn_46 (fun _ h => h)
  · subst hrt
    replace h := z_sr h
    obtain rfl := Option.some.inj h
    exact ⟨rfl, rfl⟩
theorem dX2_inputsOf_0 : decode cX2_inputsOf 0 = .ok (.iconst 0, 1) := by decide +kernel
theorem dX2_inputsOf_1 : decode cX2_inputsOf 1 = .ok (.istore_n 2, 1) := by decide +kernel
theorem dX2_inputsOf_2 : decode cX2_inputsOf 2 = .ok (.iconst 0, 1) := by decide +kernel
theorem dX2_inputsOf_3 : decode cX2_inputsOf 3 = .ok (.istore_n 3, 1) := by decide +kernel
theorem dX2_inputsOf_4 : decode cX2_inputsOf 4 = .ok (.iload_n 3, 1) := by decide +kernel
theorem dX2_inputsOf_5 : decode cX2_inputsOf 5 = .ok (.aload_n 0, 1) := by decide +kernel
theorem dX2_inputsOf_6 : decode cX2_inputsOf 6 = .ok (.getfield 44, 3) := by decide +kernel
theorem dX2_inputsOf_9 : decode cX2_inputsOf 9 = .ok (.arraylength, 1) := by decide +kernel
theorem dX2_inputsOf_10 : decode cX2_inputsOf 10 = .ok (.if_icmp .ge 38, 3) := by decide +kernel
theorem dX2_inputsOf_13 : decode cX2_inputsOf 13 = .ok (.aload_n 0, 1) := by decide +kernel
theorem dX2_inputsOf_14 : decode cX2_inputsOf 14 = .ok (.getfield 21, 3) := by decide +kernel
theorem dX2_inputsOf_17 : decode cX2_inputsOf 17 = .ok (.iload_n 3, 1) := by decide +kernel
theorem dX2_inputsOf_18 : decode cX2_inputsOf 18 = .ok (.iload_n 1, 1) := by decide +kernel
theorem dX2_inputsOf_19 : decode cX2_inputsOf 19 = .ok (.invokestatic 59, 3) := by decide +kernel
theorem dX2_inputsOf_22 : decode cX2_inputsOf 22 = .ok (.ifCond .eq 20, 3) := by decide +kernel
theorem dX2_inputsOf_25 : decode cX2_inputsOf 25 = .ok (.aload_n 0, 1) := by decide +kernel
theorem dX2_inputsOf_26 : decode cX2_inputsOf 26 = .ok (.getfield 44, 3) := by decide +kernel
theorem dX2_inputsOf_29 : decode cX2_inputsOf 29 = .ok (.iload_n 3, 1) := by decide +kernel
theorem dX2_inputsOf_30 : decode cX2_inputsOf 30 = .ok (.baload, 1) := by decide +kernel
theorem dX2_inputsOf_31 : decode cX2_inputsOf 31 = .ok (.ifCond .ne 5, 3) := by decide +kernel
theorem dX2_inputsOf_34 : decode cX2_inputsOf 34 = .ok (.iconst 0, 1) := by decide +kernel
theorem dX2_inputsOf_35 : decode cX2_inputsOf 35 = .ok (.ireturn, 1) := by decide +kernel
theorem dX2_inputsOf_36 : decode cX2_inputsOf 36 = .ok (.iload_n 2, 1) := by decide +kernel
theorem dX2_inputsOf_37 : decode cX2_inputsOf 37 = .ok (.iconst 1, 1) := by decide +kernel
theorem dX2_inputsOf_38 : decode cX2_inputsOf 38 = .ok (.iload_n 3, 1) := by decide +kernel
theorem dX2_inputsOf_39 : decode cX2_inputsOf 39 = .ok (.ishl, 1) := by decide +kernel
theorem dX2_inputsOf_40 : decode cX2_inputsOf 40 = .ok (.ior, 1) := by decide +kernel
theorem dX2_inputsOf_41 : decode cX2_inputsOf 41 = .ok (.istore_n 2, 1) := by decide +kernel
theorem dX2_inputsOf_42 : decode cX2_inputsOf 42 = .ok (.iinc 3 1, 3) := by decide +kernel
theorem dX2_inputsOf_45 : decode cX2_inputsOf 45 = .ok (.goto (-41), 3) := by decide +kernel
theorem dX2_inputsOf_48 : decode cX2_inputsOf 48 = .ok (.iload_n 2, 1) := by decide +kernel
theorem dX2_inputsOf_49 : decode cX2_inputsOf 49 = .ok (.ireturn, 1) := by decide +kernel
theorem yd_X2_inputsOf : yX2_inputsOf.cls ≠ "java/lang/invoke/MethodHandle" ∧ yX2_inputsOf.cls ≠ "java/lang/invoke/VarHandle" ∧ (parseMethodDescriptor yX2_inputsOf.desc).map (fun d => d.parameters.length) = some 2 := by decide +kernel
abbrev rmX2_inputsOf : Room := { frames := 1, cells := 0, slots := 0, locals := 25 }
def fX2_inputsOf_L4_J42 (o : Nat) (z : CS) (l0 : Nat) (l1 : Int32) (l2 : Int32) (l3 : Int32) : Option ((Int32 × Int32) ⊕ (Int32 ⊕ Int32)) :=
  some (.inl (l2, (l3 + (1 : Int32))))
def fX2_inputsOf_L4 (o : Nat) (z : CS) (l0 : Nat) (l1 : Int32) (l2 : Int32) (l3 : Int32) : Option ((Int32 × Int32) ⊕ (Int32 ⊕ Int32)) :=
  (dT z l0).bind fun t1 =>
  (t1.2.2.2).bind fun ad2 =>
  (lnB z ad2).bind fun v3 =>
  if v3 ≤ l3 then
    some (.inr (.inl l2))
  else
    (dT z l0).bind fun t4 =>
    (fX2_isIn t4.2.1 l3 l1).bind fun q5 =>
    if q5 = 0 then
      fX2_inputsOf_L4_J42 o z l0 l1 l2 l3
    else
      (dT z l0).bind fun t6 =>
      (t6.2.2.2).bind fun ad7 =>
      (rdB z ad7 l3).bind fun v8 =>
      if v8 = 0 then
        some (.inr (.inr (0 : Int32)))
      else
        fX2_inputsOf_L4_J42 o z l0 l1 (l2 ||| ((1 : Int32) <<< (l3 &&& 31))) l3
def fX2_inputsOf (o : Nat) (z : CS) (a1 : Nat) (a2 : Int32) : Option (Int32) :=
  (lpN (fun u => fX2_inputsOf_L4 o z a1 a2 u.1 u.2) bigN ((0 : Int32), (0 : Int32))).bind fun e9 =>
  sel e9 (fun x10 =>
    some x10
    ) (fun rt => some rt)
set_option maxHeartbeats 4000000 in
set_option maxRecDepth 100000 in
theorem tX2_inputsOf_L4 {κ : KK} {p : Program} {l : Launch} {e : Env} {s : State} {m : MethodId} {args : Array Value} {below : List Frame} {meth : Method} {c : Code} (C : Cx κ p s m args meth c cX2_inputsOf 4 RX2 (some .int)) {o : Nat} {v : Option Value} {B' : Heap → Prop} {z : CS} {l0 : Nat} {l1 : Int32} {l2 : Int32} {l3 : Int32} {y : (Int32 × Int32) ⊕ (Int32 ⊕ Int32)} (h : fX2_inputsOf_L4 o z l0 l1 l2 l3 = some y) (kc : ∀ u, y = .inl u → GC κ p l e s m args below meth c rmX2_inputsOf 4 o v B' 0 0 z 4 [(0, .ref l0), (1, .int l1), (2, .int u.1), (3, .int u.2)] []) (kx : ∀ w, y = .inr w → (∀ x, w = .inl x → GC κ p l e s m args below meth c rmX2_inputsOf 4 o v B' 0 0 z 48 [(2, .int x)] []) ∧ (∀ rt, w = .inr rt → v = (some (Value.int rt)) ∧ B' = (CB κ o z))) : GC κ p l e s m args below meth c rmX2_inputsOf 4 o v B' 0 0 z 4 [(0, .ref l0), (1, .int l1), (2, .int l2), (3, .int l3)] [] := by
  have J42 : ∀ (l2 : Int32) (l3 : Int32), fX2_inputsOf_L4_J42 o z l0 l1 l2 l3 = some y → GC κ p l e s m args below meth c rmX2_inputsOf 4 o v B' 0 0 z 42 [(0, .ref l0), (1, .int l1), (2, .int l2), (3, .int l3)] [] := by
    intro l2 l3 h
    unfold fX2_inputsOf_L4_J42 at h
    refine G_iinc (pc' := 45) C dX2_inputsOf_42 3 rfl rfl [(3, .int (l3 + (1 : Int32))), (0, .ref l0), (1, .int l1), (2, .int l2)] (by decide) rfl rfl ?_
    refine G_goto (tgt := 4) C dX2_inputsOf_45 (by decide) ?_
    exact G_sub (lv' := [(0, .ref l0), (1, .int l1), (2, .int l2), (3, .int (l3 + (1 : Int32)))]) [1, 2, 3, 0] rfl (kc (l2, (l3 + (1 : Int32))) (Option.some.inj h).symm)
  unfold fX2_inputsOf_L4 at h
  refine G_iload_n (pc' := 5) C dX2_inputsOf_4 3 rfl rfl ?_
  refine G_aload_n (pc' := 6) C dX2_inputsOf_5 0 rfl rfl ?_
  replace h := ob h
  obtain ⟨t1, ht1, h⟩ := h
  refine G_get (pc' := 9) (k := 3) C fi_X8 dX2_inputsOf_6 tw_fl_X2_44 rfl (by decide) (CB_T ht1) rfl rfl ?_
  replace h := ob h
  obtain ⟨ad2, had2, h⟩ := h
  rw [had2]
  replace h := ob h
  obtain ⟨v3, hv3, h⟩ := h
  refine P_lenB (pc' := 10) C dX2_inputsOf_9 hv3 rfl ?_
  refine G_icmp_ge (tgt := 48) (pc' := 13) C dX2_inputsOf_10 (by decide) rfl (fun hc => ?_) (fun hc => ?_)
  · replace h := z_ip hc h
    exact G_sub (lv' := [(2, .int l2)]) [2] rfl ((kx _ (Option.some.inj h).symm).1 _ rfl)
  · replace h := z_in hc h
    refine G_aload_n (pc' := 14) C dX2_inputsOf_13 0 rfl rfl ?_
    replace h := ob h
    obtain ⟨t4, ht4, h⟩ := h
    refine G_get (pc' := 17) (k := 1) C fi_X8 dX2_inputsOf_14 tw_fl_X2_21 rfl (by decide) (CB_T ht4) rfl rfl ?_
    refine G_iload_n (pc' := 18) C dX2_inputsOf_17 3 rfl rfl ?_
    refine G_iload_n (pc' := 19) C dX2_inputsOf_18 1 rfl rfl ?_
    replace h := ob h
    obtain ⟨q5, hq5, h⟩ := h
    refine G_cS0 (pc' := 22) C dX2_inputsOf_19 (tX2_isIn κ l (CA o) (CB κ o z) t4.2.1 l3 l1 q5 hq5) (wS tw_ml_X2_59 tw_st_X2_isIn tw_co_X2_isIn tw_in_X2) yd_X2_isIn rfl rfl rfl (by decide) rfl (Nat.le_of_ble_eq_true rfl) rfl rfl ?_
    refine G_if_eq (tgt := 42) (pc' := 25) C dX2_inputsOf_22 (by decide) rfl (fun hc => ?_) (fun hc => ?_)
    · replace h := z_ip hc h
      exact G_sub (lv' := [(0, .ref l0), (1, .int l1), (2, .int l2), (3, .int l3)]) [0, 1, 2, 3] rfl (J42 l2 l3 h)
    · replace h := z_in hc h
      refine G_aload_n (pc' := 26) C dX2_inputsOf_25 0 rfl rfl ?_
      replace h := ob h
      obtain ⟨t6, ht6, h⟩ := h
      refine G_get (pc' := 29) (k := 3) C fi_X8 dX2_inputsOf_26 tw_fl_X2_44 rfl (by decide) (CB_T ht6) rfl rfl ?_
      refine G_iload_n (pc' := 30) C dX2_inputsOf_29 3 rfl rfl ?_
      replace h := ob h
      obtain ⟨ad7, had7, h⟩ := h
      rw [had7]
      replace h := ob h
      obtain ⟨v8, hv8, h⟩ := h
      refine P_bald (pc' := 31) C dX2_inputsOf_30 hv8 rfl ?_
      refine G_if_ne (tgt := 36) (pc' := 34) C dX2_inputsOf_31 (by decide) rfl (fun hc => ?_) (fun hc => ?_)
      · replace h := z_in hc h
        refine G_iload_n (pc' := 37) C dX2_inputsOf_36 2 rfl rfl ?_
        refine G_iconst (pc' := 38) (v := (1 : Int32)) C dX2_inputsOf_37 (by decide) rfl ?_
        refine G_iload_n (pc' := 39) C dX2_inputsOf_38 3 rfl rfl ?_
        refine G_ishl (pc' := 40) C dX2_inputsOf_39 rfl ?_
        refine G_ior (pc' := 41) C dX2_inputsOf_40 rfl ?_
        refine G_istore_n (pc' := 42) C dX2_inputsOf_41 [(2, .int (l2 ||| ((1 : Int32) <<< (l3 &&& 31)))), (0, .ref l0), (1, .int l1), (3, .int l3)] (by decide) rfl rfl ?_
        exact G_sub (lv' := [(0, .ref l0), (1, .int l1), (2, .int (l2 ||| ((1 : Int32) <<< (l3 &&& 31)))), (3, .int l3)]) [1, 2, 0, 3] rfl (J42 (l2 ||| ((1 : Int32) <<< (l3 &&& 31))) l3 h)
      · replace h := z_ip hc h
        refine G_iconst (pc' := 35) (v := (0 : Int32)) C dX2_inputsOf_34 (by decide) rfl ?_
        obtain ⟨hv, hB⟩ := (kx _ (Option.some.inj h).symm).2 _ rfl
        subst hv
        subst hB
        exact G_iret C dX2_inputsOf_35 (fun _ h => h)
set_option maxHeartbeats 4000000 in
set_option maxRecDepth 100000 in
theorem tX2_inputsOf (κ : KK) (l : Launch) (o : Nat) (z : CS) (a1 : Nat) (a2 : Int32) (q : Int32) (h : fX2_inputsOf o z a1 a2 = some q) : MM κ l yX2_inputsOf cX2_inputsOf 4 (some .int) rmX2_inputsOf (CA o) [.ref a1, .int a2] (CB κ o z) (some (Value.int q)) (CB κ o z) := by
  refine MM.of (by decide +kernel) (Nat.le_of_ble_eq_true rfl) ?_
  intro p e s m below meth c C hnm
  unfold fX2_inputsOf at h
  refine G_sub (lv' := [(0, .ref a1), (1, .int a2)]) [0, 1] rfl ?_
  refine G_iconst (pc' := 1) (v := (0 : Int32)) C dX2_inputsOf_0 (by decide) rfl ?_
  refine G_istore_n (pc' := 2) C dX2_inputsOf_1 [(2, .int (0 : Int32)), (0, .ref a1), (1, .int a2)] (by decide) rfl rfl ?_
  refine G_iconst (pc' := 3) (v := (0 : Int32)) C dX2_inputsOf_2 (by decide) rfl ?_
  refine G_istore_n (pc' := 4) C dX2_inputsOf_3 [(3, .int (0 : Int32)), (2, .int (0 : Int32)), (0, .ref a1), (1, .int a2)] (by decide) rfl rfl ?_
  replace h := ob h
  obtain ⟨e9, hle9, h⟩ := h
  refine G_sub (lv' := [(0, .ref a1), (1, .int a2), (2, .int (0 : Int32)), (3, .int (0 : Int32))]) [2, 3, 1, 0] rfl ?_
  refine lpN_ind (body := fun u => fX2_inputsOf_L4 o z a1 a2 u.1 u.2) (P := fun u => GC κ p l e s m ([.ref a1, .int a2] : List Value).toArray below meth c rmX2_inputsOf 4 o (some (Value.int q)) (CB κ o z) 0 0 z 4 [(0, .ref a1), (1, .int a2), (2, .int u.1), (3, .int u.2)] []) (X := fun w => (∀ x, w = .inl x → GC κ p l e s m ([.ref a1, .int a2] : List Value).toArray below meth c rmX2_inputsOf 4 o (some (Value.int q)) (CB κ o z) 0 0 z 48 [(2, .int x)] []) ∧ (∀ rt, w = .inr rt → (some (Value.int q)) = (some (Value.int rt)) ∧ (CB κ o z) = (CB κ o z))) (fun u y hb kc kx => tX2_inputsOf_L4 C hb kc kx) _ _ _ hle9 ?_
  refine ⟨fun x10 hxx10 => ?_, fun rt hrt => ?_⟩
  · subst hxx10
    replace h := z_sl h
    refine G_iload_n (pc' := 49) C dX2_inputsOf_48 0 rfl rfl ?_
    obtain rfl := Option.some.inj h
    exact G_iret C dX2_inputsOf_49 (fun _ h => h)
  · subst hrt
    replace h := z_sr h
    obtain rfl := Option.some.inj h
    exact ⟨rfl, rfl⟩
theorem dX2_hasWider_0 : decode cX2_hasWider 0 = .ok (.iload_n 1, 1) := by decide +kernel
theorem dX2_hasWider_1 : decode cX2_hasWider 1 = .ok (.istore_n 2, 1) := by decide +kernel
theorem dX2_hasWider_2 : decode cX2_hasWider 2 = .ok (.iconst 1, 1) := by decide +kernel
theorem dX2_hasWider_3 : decode cX2_hasWider 3 = .ok (.istore_n 3, 1) := by decide +kernel
theorem dX2_hasWider_4 : decode cX2_hasWider 4 = .ok (.iload_n 3, 1) := by decide +kernel
theorem dX2_hasWider_5 : decode cX2_hasWider 5 = .ok (.aload_n 0, 1) := by decide +kernel
theorem dX2_hasWider_6 : decode cX2_hasWider 6 = .ok (.getfield 33, 3) := by decide +kernel
theorem dX2_hasWider_9 : decode cX2_hasWider 9 = .ok (.if_icmp .ge 43, 3) := by decide +kernel
theorem dX2_hasWider_12 : decode cX2_hasWider 12 = .ok (.iload_n 2, 1) := by decide +kernel
theorem dX2_hasWider_13 : decode cX2_hasWider 13 = .ok (.iconst 3, 1) := by decide +kernel
theorem dX2_hasWider_14 : decode cX2_hasWider 14 = .ok (.irem, 1) := by decide +kernel
theorem dX2_hasWider_15 : decode cX2_hasWider 15 = .ok (.istore 4, 2) := by decide +kernel
theorem dX2_hasWider_17 : decode cX2_hasWider 17 = .ok (.iload 4, 2) := by decide +kernel
theorem dX2_hasWider_19 : decode cX2_hasWider 19 = .ok (.iconst 2, 1) := by decide +kernel
theorem dX2_hasWider_20 : decode cX2_hasWider 20 = .ok (.if_icmp .eq 21, 3) := by decide +kernel
theorem dX2_hasWider_23 : decode cX2_hasWider 23 = .ok (.aload_n 0, 1) := by decide +kernel
theorem dX2_hasWider_24 : decode cX2_hasWider 24 = .ok (.getfield 15, 3) := by decide +kernel
theorem dX2_hasWider_27 : decode cX2_hasWider 27 = .ok (.iload_n 1, 1) := by decide +kernel
theorem dX2_hasWider_28 : decode cX2_hasWider 28 = .ok (.iconst 2, 1) := by decide +kernel
theorem dX2_hasWider_29 : decode cX2_hasWider 29 = .ok (.iload 4, 2) := by decide +kernel
theorem dX2_hasWider_31 : decode cX2_hasWider 31 = .ok (.isub, 1) := by decide +kernel
theorem dX2_hasWider_32 : decode cX2_hasWider 32 = .ok (.iload_n 3, 1) := by decide +kernel
theorem dX2_hasWider_33 : decode cX2_hasWider 33 = .ok (.imul, 1) := by decide +kernel
theorem dX2_hasWider_34 : decode cX2_hasWider 34 = .ok (.iadd, 1) := by decide +kernel
theorem dX2_hasWider_35 : decode cX2_hasWider 35 = .ok (.iaload, 1) := by decide +kernel
theorem dX2_hasWider_36 : decode cX2_hasWider 36 = .ok (.ifCond .eq 5, 3) := by decide +kernel
theorem dX2_hasWider_39 : decode cX2_hasWider 39 = .ok (.iconst 1, 1) := by decide +kernel
theorem dX2_hasWider_40 : decode cX2_hasWider 40 = .ok (.ireturn, 1) := by decide +kernel
theorem dX2_hasWider_41 : decode cX2_hasWider 41 = .ok (.iload_n 2, 1) := by decide +kernel
theorem dX2_hasWider_42 : decode cX2_hasWider 42 = .ok (.iconst 3, 1) := by decide +kernel
theorem dX2_hasWider_43 : decode cX2_hasWider 43 = .ok (.idiv, 1) := by decide +kernel
theorem dX2_hasWider_44 : decode cX2_hasWider 44 = .ok (.istore_n 2, 1) := by decide +kernel
theorem dX2_hasWider_45 : decode cX2_hasWider 45 = .ok (.iload_n 3, 1) := by decide +kernel
theorem dX2_hasWider_46 : decode cX2_hasWider 46 = .ok (.iconst 3, 1) := by decide +kernel
theorem dX2_hasWider_47 : decode cX2_hasWider 47 = .ok (.imul, 1) := by decide +kernel
theorem dX2_hasWider_48 : decode cX2_hasWider 48 = .ok (.istore_n 3, 1) := by decide +kernel
theorem dX2_hasWider_49 : decode cX2_hasWider 49 = .ok (.goto (-45), 3) := by decide +kernel
theorem dX2_hasWider_52 : decode cX2_hasWider 52 = .ok (.iconst 0, 1) := by decide +kernel
theorem dX2_hasWider_53 : decode cX2_hasWider 53 = .ok (.ireturn, 1) := by decide +kernel
theorem yd_X2_hasWider : yX2_hasWider.cls = RX2 ∧ yX2_hasWider.cls ≠ "java/lang/invoke/MethodHandle" ∧ yX2_hasWider.cls ≠ "java/lang/invoke/VarHandle" ∧ (parseMethodDescriptor yX2_hasWider.desc).map (fun d => d.parameters.length) = some 1 := by decide +kernel
abbrev rmX2_hasWider : Room := { frames := 0, cells := 0, slots := 0, locals := 0 }
def fX2_hasWider_L4_J41 (o : Nat) (z : CS) (l1 : Int32) (l2 : Int32) (l3 : Int32) : Option ((Int32 × Int32) ⊕ (Unit ⊕ Int32)) :=
  some (.inl ((l2 / (3 : Int32)), (l3 * (3 : Int32))))
def fX2_hasWider_L4 (o : Nat) (z : CS) (l1 : Int32) (l2 : Int32) (l3 : Int32) : Option ((Int32 × Int32) ⊕ (Unit ⊕ Int32)) :=
  if (z.1 10) ≤ l3 then
    some (.inr (.inl ()))
  else
    if (l2 - l2 / (3 : Int32) * (3 : Int32)) = (2 : Int32) then
      fX2_hasWider_L4_J41 o z l1 l2 l3
    else
      (aI 81 (z.2.1 14) (l1 + (((2 : Int32) - (l2 - l2 / (3 : Int32) * (3 : Int32))) * l3))).bind fun v1 =>
      if v1 = 0 then
        fX2_hasWider_L4_J41 o z l1 l2 l3
      else
        some (.inr (.inr (1 : Int32)))
def fX2_hasWider (o : Nat) (z : CS) (a1 : Int32) : Option (Int32) :=
  (lpN (fun u => fX2_hasWider_L4 o z a1 u.1 u.2) bigN (a1, (1 : Int32))).bind fun e2 =>
  sel e2 (fun x3 =>
    some (0 : Int32)
    ) (fun rt => some rt)
set_option maxHeartbeats 4000000 in
set_option maxRecDepth 100000 in
theorem tX2_hasWider_L4 {κ : KK} {p : Program} {l : Launch} {e : Env} {s : State} {m : MethodId} {args : Array Value} {below : List Frame} {meth : Method} {c : Code} (C : Cx κ p s m args meth c cX2_hasWider 5 RX2 (some .boolean)) {o : Nat} {v : Option Value} {B' : Heap → Prop} {z : CS} {l1 : Int32} {l2 : Int32} {l3 : Int32} {y : (Int32 × Int32) ⊕ (Unit ⊕ Int32)} (h : fX2_hasWider_L4 o z l1 l2 l3 = some y) (kc : ∀ u, y = .inl u → GC κ p l e s m args below meth c rmX2_hasWider 5 o v B' 0 0 z 4 [(0, .ref (o + 22)), (1, .int l1), (2, .int u.1), (3, .int u.2)] []) (kx : ∀ w, y = .inr w → (∀ x, w = .inl x → GC κ p l e s m args below meth c rmX2_hasWider 5 o v B' 0 0 z 52 [] []) ∧ (∀ rt, w = .inr rt → v = (some (Value.int rt)) ∧ B' = (CB κ o z))) : GC κ p l e s m args below meth c rmX2_hasWider 5 o v B' 0 0 z 4 [(0, .ref (o + 22)), (1, .int l1), (2, .int l2), (3, .int l3)] [] := by
  have J41 : ∀ (l2 : Int32) (l3 : Int32), fX2_hasWider_L4_J41 o z l1 l2 l3 = some y → GC κ p l e s m args below meth c rmX2_hasWider 5 o v B' 0 0 z 41 [(0, .ref (o + 22)), (1, .int l1), (2, .int l2), (3, .int l3)] [] := by
    intro l2 l3 h
    unfold fX2_hasWider_L4_J41 at h
    refine G_iload_n (pc' := 42) C dX2_hasWider_41 2 rfl rfl ?_
    refine G_iconst (pc' := 43) (v := (3 : Int32)) C dX2_hasWider_42 (by decide) rfl ?_
    refine G_idiv (pc' := 44) C dX2_hasWider_43 (by decide) rfl ?_
    refine G_istore_n (pc' := 45) C dX2_hasWider_44 [(2, .int (l2 / (3 : Int32))), (0, .ref (o + 22)), (1, .int l1), (3, .int l3)] (by decide) rfl rfl ?_
    refine G_iload_n (pc' := 46) C dX2_hasWider_45 3 rfl rfl ?_
    refine G_iconst (pc' := 47) (v := (3 : Int32)) C dX2_hasWider_46 (by decide) rfl ?_
    refine G_imul (pc' := 48) C dX2_hasWider_47 rfl ?_
    refine G_istore_n (pc' := 49) C dX2_hasWider_48 [(3, .int (l3 * (3 : Int32))), (2, .int (l2 / (3 : Int32))), (0, .ref (o + 22)), (1, .int l1)] (by decide) rfl rfl ?_
    refine G_goto (tgt := 4) C dX2_hasWider_49 (by decide) ?_
    exact G_sub (lv' := [(0, .ref (o + 22)), (1, .int l1), (2, .int (l2 / (3 : Int32))), (3, .int (l3 * (3 : Int32)))]) [2, 3, 1, 0] rfl (kc ((l2 / (3 : Int32)), (l3 * (3 : Int32))) (Option.some.inj h).symm)
  unfold fX2_hasWider_L4 at h
  refine G_iload_n (pc' := 5) C dX2_hasWider_4 3 rfl rfl ?_
  refine G_aload_n (pc' := 6) C dX2_hasWider_5 0 rfl rfl ?_
  refine G_get (pc' := 9) (k := 4) C fi_X2 dX2_hasWider_6 tw_fl_X2_33 rfl (by decide) (CB_rd 22 rfl) rfl rfl ?_
  refine G_icmp_ge (tgt := 52) (pc' := 12) C dX2_hasWider_9 (by decide) rfl (fun hc => ?_) (fun hc => ?_)
  · replace h := z_ip hc h
    exact G_sub (lv' := []) [] rfl ((kx _ (Option.some.inj h).symm).1 _ rfl)
  · replace h := z_in hc h
    refine G_iload_n (pc' := 13) C dX2_hasWider_12 2 rfl rfl ?_
    refine G_iconst (pc' := 14) (v := (3 : Int32)) C dX2_hasWider_13 (by decide) rfl ?_
    refine G_irem (pc' := 15) C dX2_hasWider_14 (by decide) rfl ?_
    refine G_istore (pc' := 17) C dX2_hasWider_15 [(4, .int (l2 - l2 / (3 : Int32) * (3 : Int32))), (0, .ref (o + 22)), (1, .int l1), (2, .int l2), (3, .int l3)] (by decide) rfl rfl ?_
    refine G_iload (pc' := 19) C dX2_hasWider_17 0 rfl rfl ?_
    refine G_iconst (pc' := 20) (v := (2 : Int32)) C dX2_hasWider_19 (by decide) rfl ?_
    refine G_icmp_eq (tgt := 41) (pc' := 23) C dX2_hasWider_20 (by decide) rfl (fun hc => ?_) (fun hc => ?_)
    · replace h := z_ip hc h
      exact G_sub (lv' := [(0, .ref (o + 22)), (1, .int l1), (2, .int l2), (3, .int l3)]) [1, 2, 3, 4] rfl (J41 l2 l3 h)
    · replace h := z_in hc h
      refine G_aload_n (pc' := 24) C dX2_hasWider_23 1 rfl rfl ?_
      refine G_get (pc' := 27) (k := 2) C fi_X2 dX2_hasWider_24 tw_fl_X2_15 rfl (by decide) (CB_rd 22 rfl) rfl rfl ?_
      refine G_iload_n (pc' := 28) C dX2_hasWider_27 2 rfl rfl ?_
      refine G_iconst (pc' := 29) (v := (2 : Int32)) C dX2_hasWider_28 (by decide) rfl ?_
      refine G_iload (pc' := 31) C dX2_hasWider_29 0 rfl rfl ?_
      refine G_isub (pc' := 32) C dX2_hasWider_31 rfl ?_
      refine G_iload_n (pc' := 33) C dX2_hasWider_32 4 rfl rfl ?_
      refine G_imul (pc' := 34) C dX2_hasWider_33 rfl ?_
      refine G_iadd (pc' := 35) C dX2_hasWider_34 rfl ?_
      replace h := ob h
      obtain ⟨v1, hv1, h⟩ := h
      refine G_ialdV (pc' := 36) C dX2_hasWider_35 (CB_rd 24 rfl) hv1 rfl ?_
      refine G_if_eq (tgt := 41) (pc' := 39) C dX2_hasWider_36 (by decide) rfl (fun hc => ?_) (fun hc => ?_)
      · replace h := z_ip hc h
        exact G_sub (lv' := [(0, .ref (o + 22)), (1, .int l1), (2, .int l2), (3, .int l3)]) [1, 2, 3, 4] rfl (J41 l2 l3 h)
      · replace h := z_in hc h
        refine G_iconst (pc' := 40) (v := (1 : Int32)) C dX2_hasWider_39 (by decide) rfl ?_
        obtain ⟨hv, hB⟩ := (kx _ (Option.some.inj h).symm).2 _ rfl
        subst hv
        subst hB
        exact G_zret (v := (1 : Int32)) C rfl dX2_hasWider_40 (fun _ h => h)
set_option maxHeartbeats 4000000 in
set_option maxRecDepth 100000 in
theorem tX2_hasWider (κ : KK) (l : Launch) (o : Nat) (z : CS) (a1 : Int32) (q : Int32) (h : fX2_hasWider o z a1 = some q) : MM κ l yX2_hasWider cX2_hasWider 5 (some .boolean) rmX2_hasWider (CA o) [.ref (o + 22), .int a1] (CB κ o z) (some (Value.int q)) (CB κ o z) := by
  refine MM.of (by decide +kernel) (Nat.le_of_ble_eq_true rfl) ?_
  intro p e s m below meth c C hnm
  unfold fX2_hasWider at h
  refine G_sub (lv' := [(0, .ref (o + 22)), (1, .int a1)]) [0, 1] rfl ?_
  refine G_iload_n (pc' := 1) C dX2_hasWider_0 1 rfl rfl ?_
  refine G_istore_n (pc' := 2) C dX2_hasWider_1 [(2, .int a1), (0, .ref (o + 22)), (1, .int a1)] (by decide) rfl rfl ?_
  refine G_iconst (pc' := 3) (v := (1 : Int32)) C dX2_hasWider_2 (by decide) rfl ?_
  refine G_istore_n (pc' := 4) C dX2_hasWider_3 [(3, .int (1 : Int32)), (2, .int a1), (0, .ref (o + 22)), (1, .int a1)] (by decide) rfl rfl ?_
  replace h := ob h
  obtain ⟨e2, hle2, h⟩ := h
  refine G_sub (lv' := [(0, .ref (o + 22)), (1, .int a1), (2, .int a1), (3, .int (1 : Int32))]) [2, 3, 1, 0] rfl ?_
  refine lpN_ind (body := fun u => fX2_hasWider_L4 o z a1 u.1 u.2) (P := fun u => GC κ p l e s m ([.ref (o + 22), .int a1] : List Value).toArray below meth c rmX2_hasWider 5 o (some (Value.int q)) (CB κ o z) 0 0 z 4 [(0, .ref (o + 22)), (1, .int a1), (2, .int u.1), (3, .int u.2)] []) (X := fun w => (∀ x, w = .inl x → GC κ p l e s m ([.ref (o + 22), .int a1] : List Value).toArray below meth c rmX2_hasWider 5 o (some (Value.int q)) (CB κ o z) 0 0 z 52 [] []) ∧ (∀ rt, w = .inr rt → (some (Value.int q)) = (some (Value.int rt)) ∧ (CB κ o z) = (CB κ o z))) (fun u y hb kc kx => tX2_hasWider_L4 C hb kc kx) _ _ _ hle2 ?_
  refine ⟨fun x3 hxx3 => ?_, fun rt hrt => ?_⟩
  · subst hxx3
    replace h := z_sl h
    refine G_iconst (pc' := 53) (v := (0 : Int32)) C dX2_hasWider_52 (by decide) rfl ?_
    obtain rfl := Option.some.inj h
    exact G_zret (v := (0 : Int32)) C rfl dX2_hasWider_53 (fun _ h => h)
  · subst hrt
    replace h := z_sr h
    obtain rfl := Option.some.inj h
    exact ⟨rfl, rfl⟩
theorem dX2_canCover_0 : decode cX2_canCover 0 = .ok (.iload_n 1, 1) := by decide +kernel
theorem dX2_canCover_1 : decode cX2_canCover 1 = .ok (.ifCond .eq 7, 3) := by decide +kernel
theorem dX2_canCover_4 : decode cX2_canCover 4 = .ok (.iload_n 2, 1) := by decide +kernel
theorem dX2_canCover_5 : decode cX2_canCover 5 = .ok (.ifCond .gt 13, 3) := by decide +kernel
theorem dX2_canCover_8 : decode cX2_canCover 8 = .ok (.iload_n 1, 1) := by decide +kernel
theorem dX2_canCover_9 : decode cX2_canCover 9 = .ok (.ifCond .ne 7, 3) := by decide +kernel
theorem dX2_canCover_12 : decode cX2_canCover 12 = .ok (.iconst 1, 1) := by decide +kernel
theorem dX2_canCover_13 : decode cX2_canCover 13 = .ok (.goto 4, 3) := by decide +kernel
theorem dX2_canCover_16 : decode cX2_canCover 16 = .ok (.iconst 0, 1) := by decide +kernel
theorem dX2_canCover_17 : decode cX2_canCover 17 = .ok (.ireturn, 1) := by decide +kernel
theorem dX2_canCover_18 : decode cX2_canCover 18 = .ok (.iload_n 1, 1) := by decide +kernel
theorem dX2_canCover_19 : decode cX2_canCover 19 = .ok (.iload_n 1, 1) := by decide +kernel
theorem dX2_canCover_20 : decode cX2_canCover 20 = .ok (.ineg, 1) := by decide +kernel
theorem dX2_canCover_21 : decode cX2_canCover 21 = .ok (.iand, 1) := by decide +kernel
theorem dX2_canCover_22 : decode cX2_canCover 22 = .ok (.istore_n 3, 1) := by decide +kernel
theorem dX2_canCover_23 : decode cX2_canCover 23 = .ok (.iconst 0, 1) := by decide +kernel
theorem dX2_canCover_24 : decode cX2_canCover 24 = .ok (.istore 4, 2) := by decide +kernel
theorem dX2_canCover_26 : decode cX2_canCover 26 = .ok (.iload 4, 2) := by decide +kernel
theorem dX2_canCover_28 : decode cX2_canCover 28 = .ok (.aload_n 0, 1) := by decide +kernel
theorem dX2_canCover_29 : decode cX2_canCover 29 = .ok (.getfield 33, 3) := by decide +kernel
theorem dX2_canCover_32 : decode cX2_canCover 32 = .ok (.if_icmp .ge 44, 3) := by decide +kernel
theorem dX2_canCover_35 : decode cX2_canCover 35 = .ok (.aload_n 0, 1) := by decide +kernel
theorem dX2_canCover_36 : decode cX2_canCover 36 = .ok (.getfield 18, 3) := by decide +kernel
theorem dX2_canCover_39 : decode cX2_canCover 39 = .ok (.iload 4, 2) := by decide +kernel
theorem dX2_canCover_41 : decode cX2_canCover 41 = .ok (.iaload, 1) := by decide +kernel
theorem dX2_canCover_42 : decode cX2_canCover 42 = .ok (.iload_n 3, 1) := by decide +kernel
theorem dX2_canCover_43 : decode cX2_canCover 43 = .ok (.iand, 1) := by decide +kernel
theorem dX2_canCover_44 : decode cX2_canCover 44 = .ok (.ifCond .eq 26, 3) := by decide +kernel
theorem dX2_canCover_47 : decode cX2_canCover 47 = .ok (.aload_n 0, 1) := by decide +kernel
theorem dX2_canCover_48 : decode cX2_canCover 48 = .ok (.iload_n 1, 1) := by decide +kernel
theorem dX2_canCover_49 : decode cX2_canCover 49 = .ok (.aload_n 0, 1) := by decide +kernel
theorem dX2_canCover_50 : decode cX2_canCover 50 = .ok (.getfield 18, 3) := by decide +kernel
theorem dX2_canCover_53 : decode cX2_canCover 53 = .ok (.iload 4, 2) := by decide +kernel
theorem dX2_canCover_55 : decode cX2_canCover 55 = .ok (.iaload, 1) := by decide +kernel
theorem dX2_canCover_56 : decode cX2_canCover 56 = .ok (.iconst (-1), 1) := by decide +kernel
theorem dX2_canCover_57 : decode cX2_canCover 57 = .ok (.ixor, 1) := by decide +kernel
theorem dX2_canCover_58 : decode cX2_canCover 58 = .ok (.iand, 1) := by decide +kernel
theorem dX2_canCover_59 : decode cX2_canCover 59 = .ok (.iload_n 2, 1) := by decide +kernel
theorem dX2_canCover_60 : decode cX2_canCover 60 = .ok (.iconst 1, 1) := by decide +kernel
theorem dX2_canCover_61 : decode cX2_canCover 61 = .ok (.isub, 1) := by decide +kernel
theorem dX2_canCover_62 : decode cX2_canCover 62 = .ok (.invokevirtual 48, 3) := by decide +kernel
theorem dX2_canCover_65 : decode cX2_canCover 65 = .ok (.ifCond .eq 5, 3) := by decide +kernel
theorem dX2_canCover_68 : decode cX2_canCover 68 = .ok (.iconst 1, 1) := by decide +kernel
theorem dX2_canCover_69 : decode cX2_canCover 69 = .ok (.ireturn, 1) := by decide +kernel
theorem dX2_canCover_70 : decode cX2_canCover 70 = .ok (.iinc 4 1, 3) := by decide +kernel
theorem dX2_canCover_73 : decode cX2_canCover 73 = .ok (.goto (-47), 3) := by decide +kernel
theorem dX2_canCover_76 : decode cX2_canCover 76 = .ok (.iconst 0, 1) := by decide +kernel
theorem dX2_canCover_77 : decode cX2_canCover 77 = .ok (.ireturn, 1) := by decide +kernel
theorem yd_X2_canCover : yX2_canCover.cls = RX2 ∧ yX2_canCover.cls ≠ "java/lang/invoke/MethodHandle" ∧ yX2_canCover.cls ≠ "java/lang/invoke/VarHandle" ∧ (parseMethodDescriptor yX2_canCover.desc).map (fun d => d.parameters.length) = some 2 := by decide +kernel
abbrev rmX2_canCover (n : Nat) : Room := { frames := n + 0, cells := 0, slots := 0, locals := 24 * n + 0 }
def fX2_canCover_B_L26_J70 (o : Nat) (rec : CS → Int32 → Int32 → Option (Int32)) (z : CS) (l1 : Int32) (l2 : Int32) (l3 : Int32) (l4 : Int32) : Option (Int32 ⊕ (Unit ⊕ Int32)) :=
  some (.inl (l4 + (1 : Int32)))
def fX2_canCover_B_L26 (o : Nat) (rec : CS → Int32 → Int32 → Option (Int32)) (z : CS) (l1 : Int32) (l2 : Int32) (l3 : Int32) (l4 : Int32) : Option (Int32 ⊕ (Unit ⊕ Int32)) :=
  if (z.1 10) ≤ l4 then
    some (.inr (.inl ()))
  else
    (aI 81 (z.2.1 15) l4).bind fun v1 =>
    if (v1 &&& l3) = 0 then
      fX2_canCover_B_L26_J70 o rec z l1 l2 l3 l4
    else
      (aI 81 (z.2.1 15) l4).bind fun v2 =>
      (rec z (l1 &&& (v2 ^^^ (-1 : Int32))) (l2 - (1 : Int32))).bind fun q3 =>
      if q3 = 0 then
        fX2_canCover_B_L26_J70 o rec z l1 l2 l3 l4
      else
        some (.inr (.inr (1 : Int32)))
def fX2_canCover_B_J8 (o : Nat) (rec : CS → Int32 → Int32 → Option (Int32)) (z : CS) (l1 : Int32) : Option (Int32) :=
  if l1 = 0 then
    some (1 : Int32)
  else
    some (0 : Int32)
def fX2_canCover_B (o : Nat) (rec : CS → Int32 → Int32 → Option (Int32)) (z : CS) (a1 : Int32) (a2 : Int32) : Option (Int32) :=
  if a1 = 0 then
    fX2_canCover_B_J8 o rec z a1
  else
    if 0 < a2 then
      (lpN (fun u => fX2_canCover_B_L26 o rec z a1 a2 (a1 &&& (-a1)) u) bigN (0 : Int32)).bind fun e4 =>
      sel e4 (fun x5 =>
        some (0 : Int32)
        ) (fun rt => some rt)
    else
      fX2_canCover_B_J8 o rec z a1
def fX2_canCover : Nat → Nat → CS → Int32 → Int32 → Option (Int32)
  | 0, _, _, _, _ => none
  | n + 1, o, z, a1, a2 => fX2_canCover_B o (fX2_canCover n o) z a1 a2
set_option maxHeartbeats 4000000 in
set_option maxRecDepth 100000 in
theorem tX2_canCover_B_L26 {κ : KK} {p : Program} {l : Launch} {e : Env} {s : State} {m : MethodId} {args : Array Value} {below : List Frame} {meth : Method} {c : Code} (C : Cx κ p s m args meth c cX2_canCover 5 RX2 (some .boolean)) {o : Nat} {rec : CS → Int32 → Int32 → Option (Int32)} {n : Nat} (hrec : ∀ (z : CS) (a1 : Int32) (a2 : Int32) (q : Int32), rec z a1 a2 = some q → MM κ l yX2_canCover cX2_canCover 5 (some .boolean) (rmX2_canCover n) (CA o) [.ref (o + 22), .int a1, .int a2] (CB κ o z) (some (Value.int q)) (CB κ o z)) {v : Option Value} {B' : Heap → Prop} {z : CS} {l1 : Int32} {l2 : Int32} {l3 : Int32} {l4 : Int32} {y : Int32 ⊕ (Unit ⊕ Int32)} (h : fX2_canCover_B_L26 o rec z l1 l2 l3 l4 = some y) (kc : ∀ u, y = .inl u → GC κ p l e s m args below meth c (rmX2_canCover (n + 1)) 5 o v B' 0 0 z 26 [(0, .ref (o + 22)), (1, .int l1), (2, .int l2), (3, .int l3), (4, .int u)] []) (kx : ∀ w, y = .inr w → (∀ x, w = .inl x → GC κ p l e s m args below meth c (rmX2_canCover (n + 1)) 5 o v B' 0 0 z 76 [] []) ∧ (∀ rt, w = .inr rt → v = (some (Value.int rt)) ∧ B' = (CB κ o z))) : GC κ p l e s m args below meth c (rmX2_canCover (n + 1)) 5 o v B' 0 0 z 26 [(0, .ref (o + 22)), (1, .int l1), (2, .int l2), (3, .int l3), (4, .int l4)] [] := by
  have J70 : ∀ (l4 : Int32), fX2_canCover_B_L26_J70 o rec z l1 l2 l3 l4 = some y → GC κ p l e s m args below meth c (rmX2_canCover (n + 1)) 5 o v B' 0 0 z 70 [(0, .ref (o + 22)), (1, .int l1), (2, .int l2), (3, .int l3), (4, .int l4)] [] := by
    intro l4 h
    unfold fX2_canCover_B_L26_J70 at h
    refine G_iinc (pc' := 73) C dX2_canCover_70 4 rfl rfl [(4, .int (l4 + (1 : Int32))), (0, .ref (o + 22)), (1, .int l1), (2, .int l2), (3, .int l3)] (by decide) rfl rfl ?_
    refine G_goto (tgt := 26) C dX2_canCover_73 (by decide) ?_
    exact G_sub (lv' := [(0, .ref (o + 22)), (1, .int l1), (2, .int l2), (3, .int l3), (4, .int (l4 + (1 : Int32)))]) [1, 2, 3, 4, 0] rfl (kc (l4 + (1 : Int32)) (Option.some.inj h).symm)
  unfold fX2_canCover_B_L26 at h
  refine G_iload (pc' := 28) C dX2_canCover_26 4 rfl rfl ?_
  refine G_aload_n (pc' := 29) C dX2_canCover_28 0 rfl rfl ?_
  refine G_get (pc' := 32) (k := 4) C fi_X2 dX2_canCover_29 tw_fl_X2_33 rfl (by decide) (CB_rd 22 rfl) rfl rfl ?_
  refine G_icmp_ge (tgt := 76) (pc' := 35) C dX2_canCover_32 (by decide) rfl (fun hc => ?_) (fun hc => ?_)
  · replace h := z_ip hc h
    exact G_sub (lv' := []) [] rfl ((kx _ (Option.some.inj h).symm).1 _ rfl)
  · replace h := z_in hc h
    refine G_aload_n (pc' := 36) C dX2_canCover_35 0 rfl rfl ?_
    refine G_get (pc' := 39) (k := 3) C fi_X2 dX2_canCover_36 tw_fl_X2_18 rfl (by decide) (CB_rd 22 rfl) rfl rfl ?_
    refine G_iload (pc' := 41) C dX2_canCover_39 4 rfl rfl ?_
    replace h := ob h
    obtain ⟨v1, hv1, h⟩ := h
    refine G_ialdV (pc' := 42) C dX2_canCover_41 (CB_rd 25 rfl) hv1 rfl ?_
    refine G_iload_n (pc' := 43) C dX2_canCover_42 3 rfl rfl ?_
    refine G_iand (pc' := 44) C dX2_canCover_43 rfl ?_
    refine G_if_eq (tgt := 70) (pc' := 47) C dX2_canCover_44 (by decide) rfl (fun hc => ?_) (fun hc => ?_)
    · replace h := z_ip hc h
      exact G_sub (lv' := [(0, .ref (o + 22)), (1, .int l1), (2, .int l2), (3, .int l3), (4, .int l4)]) [0, 1, 2, 3, 4] rfl (J70 l4 h)
    · replace h := z_in hc h
      refine G_aload_n (pc' := 48) C dX2_canCover_47 0 rfl rfl ?_
      refine G_iload_n (pc' := 49) C dX2_canCover_48 1 rfl rfl ?_
      refine G_aload_n (pc' := 50) C dX2_canCover_49 0 rfl rfl ?_
      refine G_get (pc' := 53) (k := 3) C fi_X2 dX2_canCover_50 tw_fl_X2_18 rfl (by decide) (CB_rd 22 rfl) rfl rfl ?_
      refine G_iload (pc' := 55) C dX2_canCover_53 4 rfl rfl ?_
      replace h := ob h
      obtain ⟨v2, hv2, h⟩ := h
      refine G_ialdV (pc' := 56) C dX2_canCover_55 (CB_rd 25 rfl) hv2 rfl ?_
      refine G_iconst (pc' := 57) (v := (-1 : Int32)) C dX2_canCover_56 (by decide) rfl ?_
      refine G_ixor (pc' := 58) C dX2_canCover_57 rfl ?_
      refine G_iand (pc' := 59) C dX2_canCover_58 rfl ?_
      refine G_iload_n (pc' := 60) C dX2_canCover_59 2 rfl rfl ?_
      refine G_iconst (pc' := 61) (v := (1 : Int32)) C dX2_canCover_60 (by decide) rfl ?_
      refine G_isub (pc' := 62) C dX2_canCover_61 rfl ?_
      replace h := ob h
      obtain ⟨q3, hq3, h⟩ := h
      refine G_cV0 (pc' := 65) C dX2_canCover_62 (hrec z (l1 &&& (v2 ^^^ (-1 : Int32))) (l2 - (1 : Int32)) q3 hq3) (wV tw_ml_X2_48 tw_im_X2_canCover tw_se_X2_X2_canCover tw_in_X2 tw_co_X2_canCover) yd_X2_canCover rfl fi_X2 (CB_rd 22 rfl) rfl rfl (by refine ⟨⟨?_, ?_⟩, ?_, ?_⟩ <;> dsimp only [rmX2_canCover] <;> omega) rfl (Nat.le_of_ble_eq_true rfl) rfl rfl ?_
      refine G_if_eq (tgt := 70) (pc' := 68) C dX2_canCover_65 (by decide) rfl (fun hc => ?_) (fun hc => ?_)
      · replace h := z_ip hc h
        exact G_sub (lv' := [(0, .ref (o + 22)), (1, .int l1), (2, .int l2), (3, .int l3), (4, .int l4)]) [0, 1, 2, 3, 4] rfl (J70 l4 h)
      · replace h := z_in hc h
        refine G_iconst (pc' := 69) (v := (1 : Int32)) C dX2_canCover_68 (by decide) rfl ?_
        obtain ⟨hv, hB⟩ := (kx _ (Option.some.inj h).symm).2 _ rfl
        subst hv
        subst hB
        exact G_zret (v := (1 : Int32)) C rfl dX2_canCover_69 (fun _ h => h)
set_option maxHeartbeats 4000000 in
set_option maxRecDepth 100000 in
theorem tX2_canCover_B (κ : KK) (l : Launch) (o : Nat) (rec : CS → Int32 → Int32 → Option (Int32)) (n : Nat) (hrec : ∀ (z : CS) (a1 : Int32) (a2 : Int32) (q : Int32), rec z a1 a2 = some q → MM κ l yX2_canCover cX2_canCover 5 (some .boolean) (rmX2_canCover n) (CA o) [.ref (o + 22), .int a1, .int a2] (CB κ o z) (some (Value.int q)) (CB κ o z)) (z : CS) (a1 : Int32) (a2 : Int32) (q : Int32) (h : fX2_canCover_B o rec z a1 a2 = some q) : MM κ l yX2_canCover cX2_canCover 5 (some .boolean) (rmX2_canCover (n + 1)) (CA o) [.ref (o + 22), .int a1, .int a2] (CB κ o z) (some (Value.int q)) (CB κ o z) := by
  refine MM.of (by decide +kernel) (Nat.le_of_ble_eq_true rfl) ?_
  intro p e s m below meth c C hnm
  have J8 : ∀ (l1 : Int32), fX2_canCover_B_J8 o rec z l1 = some q → GC κ p l e s m ([.ref (o + 22), .int a1, .int a2] : List Value).toArray below meth c (rmX2_canCover (n + 1)) 5 o (some (Value.int q)) (CB κ o z) 0 0 z 8 [(1, .int l1)] [] := by
    intro l1 h
    unfold fX2_canCover_B_J8 at h
    refine G_iload_n (pc' := 9) C dX2_canCover_8 0 rfl rfl ?_
    refine G_if_ne (tgt := 16) (pc' := 12) C dX2_canCover_9 (by decide) rfl (fun hc => ?_) (fun hc => ?_)
    · replace h := z_in hc h
      refine G_iconst (pc' := 17) (v := (0 : Int32)) C dX2_canCover_16 (by decide) rfl ?_
      obtain rfl := Option.some.inj h
      exact G_zret (v := (0 : Int32)) C rfl dX2_canCover_17 (fun _ h => h)
    · replace h := z_ip hc h
      refine G_iconst (pc' := 13) (v := (1 : Int32)) C dX2_canCover_12 (by decide) rfl ?_
      refine G_goto (tgt := 17) C dX2_canCover_13 (by decide) ?_
      obtain rfl := Option.some.inj h
      exact G_zret (v := (1 : Int32)) C rfl dX2_canCover_17 (fun _ h => h)
  unfold fX2_canCover_B at h
  refine G_sub (lv' := [(0, .ref (o + 22)), (1, .int a1), (2, .int a2)]) [0, 1, 2] rfl ?_
  refine G_iload_n (pc' := 1) C dX2_canCover_0 1 rfl rfl ?_
  refine G_if_eq (tgt := 8) (pc' := 4) C dX2_canCover_1 (by decide) rfl (fun hc => ?_) (fun hc => ?_)
  · replace h := z_ip hc h
    exact G_sub (lv' := [(1, .int a1)]) [1] rfl (J8 a1 h)
  · replace h := z_in hc h
    refine G_iload_n (pc' := 5) C dX2_canCover_4 2 rfl rfl ?_
    refine G_if_gt (tgt := 18) (pc' := 8) C dX2_canCover_5 (by decide) rfl (fun hc => ?_) (fun hc => ?_)
    · replace h := z_ip hc h
      refine G_iload_n (pc' := 19) C dX2_canCover_18 1 rfl rfl ?_
      refine G_iload_n (pc' := 20) C dX2_canCover_19 1 rfl rfl ?_
      refine G_ineg (pc' := 21) C dX2_canCover_20 rfl ?_
      refine G_iand (pc' := 22) C dX2_canCover_21 rfl ?_
      refine G_istore_n (pc' := 23) C dX2_canCover_22 [(3, .int (a1 &&& (-a1))), (0, .ref (o + 22)), (1, .int a1), (2, .int a2)] (by decide) rfl rfl ?_
      refine G_iconst (pc' := 24) (v := (0 : Int32)) C dX2_canCover_23 (by decide) rfl ?_
      refine G_istore (pc' := 26) C dX2_canCover_24 [(4, .int (0 : Int32)), (3, .int (a1 &&& (-a1))), (0, .ref (o + 22)), (1, .int a1), (2, .int a2)] (by decide) rfl rfl ?_
      replace h := ob h
      obtain ⟨e4, hle4, h⟩ := h
      refine G_sub (lv' := [(0, .ref (o + 22)), (1, .int a1), (2, .int a2), (3, .int (a1 &&& (-a1))), (4, .int (0 : Int32))]) [2, 3, 4, 1, 0] rfl ?_
      refine lpN_ind (body := fun u => fX2_canCover_B_L26 o rec z a1 a2 (a1 &&& (-a1)) u) (P := fun u => GC κ p l e s m ([.ref (o + 22), .int a1, .int a2] : List Value).toArray below meth c (rmX2_canCover (n + 1)) 5 o (some (Value.int q)) (CB κ o z) 0 0 z 26 [(0, .ref (o + 22)), (1, .int a1), (2, .int a2), (3, .int (a1 &&& (-a1))), (4, .int u)] []) (X := fun w => (∀ x, w = .inl x → GC κ p l e s m ([.ref (o + 22), .int a1, .int a2] : List Value).toArray below meth c (rmX2_canCover (n + 1)) 5 o (some (Value.int q)) (CB κ o z) 0 0 z 76 [] []) ∧ (∀ rt, w = .inr rt → (some (Value.int q)) = (some (Value.int rt)) ∧ (CB κ o z) = (CB κ o z))) (fun u y hb kc kx => tX2_canCover_B_L26 C hrec hb kc kx) _ _ _ hle4 ?_
      refine ⟨fun x5 hxx5 => ?_, fun rt hrt => ?_⟩
      · subst hxx5
        replace h := z_sl h
        refine G_iconst (pc' := 77) (v := (0 : Int32)) C dX2_canCover_76 (by decide) rfl ?_
        obtain rfl := Option.some.inj h
        exact G_zret (v := (0 : Int32)) C rfl dX2_canCover_77 (fun _ h => h)
      · subst hrt
        replace h := z_sr h
        obtain rfl := Option.some.inj h
        exact ⟨rfl, rfl⟩
    · replace h := z_in hc h
      exact G_sub (lv' := [(1, .int a1)]) [1] rfl (J8 a1 h)
theorem tX2_canCover (κ : KK) (l : Launch) (o : Nat) : ∀ (n : Nat) (z : CS) (a1 : Int32) (a2 : Int32) (q : Int32), fX2_canCover n o z a1 a2 = some q → MM κ l yX2_canCover cX2_canCover 5 (some .boolean) (rmX2_canCover n) (CA o) [.ref (o + 22), .int a1, .int a2] (CB κ o z) (some (Value.int q)) (CB κ o z) := by
  intro n
  induction n with
  | zero => intro z a1 a2 q h; cases h
  | succ n ih => intro z a1 a2 q h; exact tX2_canCover_B κ l o (fX2_canCover n o) n ih z a1 a2 q h
theorem dX2_leastCube_0 : decode cX2_leastCube 0 = .ok (.iload_n 1, 1) := by decide +kernel
theorem dX2_leastCube_1 : decode cX2_leastCube 1 = .ok (.iload_n 1, 1) := by decide +kernel
theorem dX2_leastCube_2 : decode cX2_leastCube 2 = .ok (.ineg, 1) := by decide +kernel
theorem dX2_leastCube_3 : decode cX2_leastCube 3 = .ok (.iand, 1) := by decide +kernel
theorem dX2_leastCube_4 : decode cX2_leastCube 4 = .ok (.istore_n 3, 1) := by decide +kernel
theorem dX2_leastCube_5 : decode cX2_leastCube 5 = .ok (.iconst 0, 1) := by decide +kernel
theorem dX2_leastCube_6 : decode cX2_leastCube 6 = .ok (.istore 4, 2) := by decide +kernel
theorem dX2_leastCube_8 : decode cX2_leastCube 8 = .ok (.iload 4, 2) := by decide +kernel
theorem dX2_leastCube_10 : decode cX2_leastCube 10 = .ok (.aload_n 0, 1) := by decide +kernel
theorem dX2_leastCube_11 : decode cX2_leastCube 11 = .ok (.getfield 33, 3) := by decide +kernel
theorem dX2_leastCube_14 : decode cX2_leastCube 14 = .ok (.if_icmp .ge 43, 3) := by decide +kernel
theorem dX2_leastCube_17 : decode cX2_leastCube 17 = .ok (.aload_n 0, 1) := by decide +kernel
theorem dX2_leastCube_18 : decode cX2_leastCube 18 = .ok (.getfield 15, 3) := by decide +kernel
theorem dX2_leastCube_21 : decode cX2_leastCube 21 = .ok (.iload 4, 2) := by decide +kernel
theorem dX2_leastCube_23 : decode cX2_leastCube 23 = .ok (.iaload, 1) := by decide +kernel
theorem dX2_leastCube_24 : decode cX2_leastCube 24 = .ok (.iload_n 3, 1) := by decide +kernel
theorem dX2_leastCube_25 : decode cX2_leastCube 25 = .ok (.iand, 1) := by decide +kernel
theorem dX2_leastCube_26 : decode cX2_leastCube 26 = .ok (.ifCond .eq 25, 3) := by decide +kernel
theorem dX2_leastCube_29 : decode cX2_leastCube 29 = .ok (.aload_n 0, 1) := by decide +kernel
theorem dX2_leastCube_30 : decode cX2_leastCube 30 = .ok (.iload_n 1, 1) := by decide +kernel
theorem dX2_leastCube_31 : decode cX2_leastCube 31 = .ok (.aload_n 0, 1) := by decide +kernel
theorem dX2_leastCube_32 : decode cX2_leastCube 32 = .ok (.getfield 15, 3) := by decide +kernel
theorem dX2_leastCube_35 : decode cX2_leastCube 35 = .ok (.iload 4, 2) := by decide +kernel
theorem dX2_leastCube_37 : decode cX2_leastCube 37 = .ok (.iaload, 1) := by decide +kernel
theorem dX2_leastCube_38 : decode cX2_leastCube 38 = .ok (.iconst (-1), 1) := by decide +kernel
theorem dX2_leastCube_39 : decode cX2_leastCube 39 = .ok (.ixor, 1) := by decide +kernel
theorem dX2_leastCube_40 : decode cX2_leastCube 40 = .ok (.iand, 1) := by decide +kernel
theorem dX2_leastCube_41 : decode cX2_leastCube 41 = .ok (.iload_n 2, 1) := by decide +kernel
theorem dX2_leastCube_42 : decode cX2_leastCube 42 = .ok (.invokevirtual 48, 3) := by decide +kernel
theorem dX2_leastCube_45 : decode cX2_leastCube 45 = .ok (.ifCond .eq 6, 3) := by decide +kernel
theorem dX2_leastCube_48 : decode cX2_leastCube 48 = .ok (.iload 4, 2) := by decide +kernel
theorem dX2_leastCube_50 : decode cX2_leastCube 50 = .ok (.ireturn, 1) := by decide +kernel
theorem dX2_leastCube_51 : decode cX2_leastCube 51 = .ok (.iinc 4 1, 3) := by decide +kernel
theorem dX2_leastCube_54 : decode cX2_leastCube 54 = .ok (.goto (-46), 3) := by decide +kernel
theorem dX2_leastCube_57 : decode cX2_leastCube 57 = .ok (.iconst 0, 1) := by decide +kernel
theorem dX2_leastCube_58 : decode cX2_leastCube 58 = .ok (.ireturn, 1) := by decide +kernel
theorem yd_X2_leastCube : yX2_leastCube.cls = RX2 ∧ yX2_leastCube.cls ≠ "java/lang/invoke/MethodHandle" ∧ yX2_leastCube.cls ≠ "java/lang/invoke/VarHandle" ∧ (parseMethodDescriptor yX2_leastCube.desc).map (fun d => d.parameters.length) = some 2 := by decide +kernel
abbrev rmX2_leastCube : Room := { frames := 25, cells := 0, slots := 0, locals := 600 }
def fX2_leastCube_L8_J51 (o : Nat) (z : CS) (l1 : Int32) (l2 : Int32) (l3 : Int32) (l4 : Int32) : Option (Int32 ⊕ (Unit ⊕ Int32)) :=
  some (.inl (l4 + (1 : Int32)))
def fX2_leastCube_L8 (o : Nat) (z : CS) (l1 : Int32) (l2 : Int32) (l3 : Int32) (l4 : Int32) : Option (Int32 ⊕ (Unit ⊕ Int32)) :=
  if (z.1 10) ≤ l4 then
    some (.inr (.inl ()))
  else
    (aI 81 (z.2.1 14) l4).bind fun v1 =>
    if (v1 &&& l3) = 0 then
      fX2_leastCube_L8_J51 o z l1 l2 l3 l4
    else
      (aI 81 (z.2.1 14) l4).bind fun v2 =>
      (fX2_canCover 24 o z (l1 &&& (v2 ^^^ (-1 : Int32))) l2).bind fun q3 =>
      if q3 = 0 then
        fX2_leastCube_L8_J51 o z l1 l2 l3 l4
      else
        some (.inr (.inr l4))
def fX2_leastCube (o : Nat) (z : CS) (a1 : Int32) (a2 : Int32) : Option (Int32) :=
  (lpN (fun u => fX2_leastCube_L8 o z a1 a2 (a1 &&& (-a1)) u) bigN (0 : Int32)).bind fun e4 =>
  sel e4 (fun x5 =>
    some (0 : Int32)
    ) (fun rt => some rt)
set_option maxHeartbeats 4000000 in
set_option maxRecDepth 100000 in
theorem tX2_leastCube_L8 {κ : KK} {p : Program} {l : Launch} {e : Env} {s : State} {m : MethodId} {args : Array Value} {below : List Frame} {meth : Method} {c : Code} (C : Cx κ p s m args meth c cX2_leastCube 5 RX2 (some .int)) {o : Nat} {v : Option Value} {B' : Heap → Prop} {z : CS} {l1 : Int32} {l2 : Int32} {l3 : Int32} {l4 : Int32} {y : Int32 ⊕ (Unit ⊕ Int32)} (h : fX2_leastCube_L8 o z l1 l2 l3 l4 = some y) (kc : ∀ u, y = .inl u → GC κ p l e s m args below meth c rmX2_leastCube 5 o v B' 0 0 z 8 [(0, .ref (o + 22)), (1, .int l1), (2, .int l2), (3, .int l3), (4, .int u)] []) (kx : ∀ w, y = .inr w → (∀ x, w = .inl x → GC κ p l e s m args below meth c rmX2_leastCube 5 o v B' 0 0 z 57 [] []) ∧ (∀ rt, w = .inr rt → v = (some (Value.int rt)) ∧ B' = (CB κ o z))) : GC κ p l e s m args below meth c rmX2_leastCube 5 o v B' 0 0 z 8 [(0, .ref (o + 22)), (1, .int l1), (2, .int l2), (3, .int l3), (4, .int l4)] [] := by
  have J51 : ∀ (l4 : Int32), fX2_leastCube_L8_J51 o z l1 l2 l3 l4 = some y → GC κ p l e s m args below meth c rmX2_leastCube 5 o v B' 0 0 z 51 [(0, .ref (o + 22)), (1, .int l1), (2, .int l2), (3, .int l3), (4, .int l4)] [] := by
    intro l4 h
    unfold fX2_leastCube_L8_J51 at h
    refine G_iinc (pc' := 54) C dX2_leastCube_51 4 rfl rfl [(4, .int (l4 + (1 : Int32))), (0, .ref (o + 22)), (1, .int l1), (2, .int l2), (3, .int l3)] (by decide) rfl rfl ?_
    refine G_goto (tgt := 8) C dX2_leastCube_54 (by decide) ?_
    exact G_sub (lv' := [(0, .ref (o + 22)), (1, .int l1), (2, .int l2), (3, .int l3), (4, .int (l4 + (1 : Int32)))]) [1, 2, 3, 4, 0] rfl (kc (l4 + (1 : Int32)) (Option.some.inj h).symm)
  unfold fX2_leastCube_L8 at h
  refine G_iload (pc' := 10) C dX2_leastCube_8 4 rfl rfl ?_
  refine G_aload_n (pc' := 11) C dX2_leastCube_10 0 rfl rfl ?_
  refine G_get (pc' := 14) (k := 4) C fi_X2 dX2_leastCube_11 tw_fl_X2_33 rfl (by decide) (CB_rd 22 rfl) rfl rfl ?_
  refine G_icmp_ge (tgt := 57) (pc' := 17) C dX2_leastCube_14 (by decide) rfl (fun hc => ?_) (fun hc => ?_)
  · replace h := z_ip hc h
    exact G_sub (lv' := []) [] rfl ((kx _ (Option.some.inj h).symm).1 _ rfl)
  · replace h := z_in hc h
    refine G_aload_n (pc' := 18) C dX2_leastCube_17 0 rfl rfl ?_
    refine G_get (pc' := 21) (k := 2) C fi_X2 dX2_leastCube_18 tw_fl_X2_15 rfl (by decide) (CB_rd 22 rfl) rfl rfl ?_
    refine G_iload (pc' := 23) C dX2_leastCube_21 4 rfl rfl ?_
    replace h := ob h
    obtain ⟨v1, hv1, h⟩ := h
    refine G_ialdV (pc' := 24) C dX2_leastCube_23 (CB_rd 24 rfl) hv1 rfl ?_
    refine G_iload_n (pc' := 25) C dX2_leastCube_24 3 rfl rfl ?_
    refine G_iand (pc' := 26) C dX2_leastCube_25 rfl ?_
    refine G_if_eq (tgt := 51) (pc' := 29) C dX2_leastCube_26 (by decide) rfl (fun hc => ?_) (fun hc => ?_)
    · replace h := z_ip hc h
      exact G_sub (lv' := [(0, .ref (o + 22)), (1, .int l1), (2, .int l2), (3, .int l3), (4, .int l4)]) [0, 1, 2, 3, 4] rfl (J51 l4 h)
    · replace h := z_in hc h
      refine G_aload_n (pc' := 30) C dX2_leastCube_29 0 rfl rfl ?_
      refine G_iload_n (pc' := 31) C dX2_leastCube_30 1 rfl rfl ?_
      refine G_aload_n (pc' := 32) C dX2_leastCube_31 0 rfl rfl ?_
      refine G_get (pc' := 35) (k := 2) C fi_X2 dX2_leastCube_32 tw_fl_X2_15 rfl (by decide) (CB_rd 22 rfl) rfl rfl ?_
      refine G_iload (pc' := 37) C dX2_leastCube_35 4 rfl rfl ?_
      replace h := ob h
      obtain ⟨v2, hv2, h⟩ := h
      refine G_ialdV (pc' := 38) C dX2_leastCube_37 (CB_rd 24 rfl) hv2 rfl ?_
      refine G_iconst (pc' := 39) (v := (-1 : Int32)) C dX2_leastCube_38 (by decide) rfl ?_
      refine G_ixor (pc' := 40) C dX2_leastCube_39 rfl ?_
      refine G_iand (pc' := 41) C dX2_leastCube_40 rfl ?_
      refine G_iload_n (pc' := 42) C dX2_leastCube_41 2 rfl rfl ?_
      replace h := ob h
      obtain ⟨q3, hq3, h⟩ := h
      refine G_cV0 (pc' := 45) C dX2_leastCube_42 (tX2_canCover κ l o 24 z (l1 &&& (v2 ^^^ (-1 : Int32))) l2 q3 hq3) (wV tw_ml_X2_48 tw_im_X2_canCover tw_se_X2_X2_canCover tw_in_X2 tw_co_X2_canCover) yd_X2_canCover rfl fi_X2 (CB_rd 22 rfl) rfl rfl (by decide) rfl (Nat.le_of_ble_eq_true rfl) rfl rfl ?_
      refine G_if_eq (tgt := 51) (pc' := 48) C dX2_leastCube_45 (by decide) rfl (fun hc => ?_) (fun hc => ?_)
      · replace h := z_ip hc h
        exact G_sub (lv' := [(0, .ref (o + 22)), (1, .int l1), (2, .int l2), (3, .int l3), (4, .int l4)]) [0, 1, 2, 3, 4] rfl (J51 l4 h)
      · replace h := z_in hc h
        refine G_iload (pc' := 50) C dX2_leastCube_48 4 rfl rfl ?_
        obtain ⟨hv, hB⟩ := (kx _ (Option.some.inj h).symm).2 _ rfl
        subst hv
        subst hB
        exact G_iret C dX2_leastCube_50 (fun _ h => h)
set_option maxHeartbeats 4000000 in
set_option maxRecDepth 100000 in
theorem tX2_leastCube (κ : KK) (l : Launch) (o : Nat) (z : CS) (a1 : Int32) (a2 : Int32) (q : Int32) (h : fX2_leastCube o z a1 a2 = some q) : MM κ l yX2_leastCube cX2_leastCube 5 (some .int) rmX2_leastCube (CA o) [.ref (o + 22), .int a1, .int a2] (CB κ o z) (some (Value.int q)) (CB κ o z) := by
  refine MM.of (by decide +kernel) (Nat.le_of_ble_eq_true rfl) ?_
  intro p e s m below meth c C hnm
  unfold fX2_leastCube at h
  refine G_sub (lv' := [(0, .ref (o + 22)), (1, .int a1), (2, .int a2)]) [0, 1, 2] rfl ?_
  refine G_iload_n (pc' := 1) C dX2_leastCube_0 1 rfl rfl ?_
  refine G_iload_n (pc' := 2) C dX2_leastCube_1 1 rfl rfl ?_
  refine G_ineg (pc' := 3) C dX2_leastCube_2 rfl ?_
  refine G_iand (pc' := 4) C dX2_leastCube_3 rfl ?_
  refine G_istore_n (pc' := 5) C dX2_leastCube_4 [(3, .int (a1 &&& (-a1))), (0, .ref (o + 22)), (1, .int a1), (2, .int a2)] (by decide) rfl rfl ?_
  refine G_iconst (pc' := 6) (v := (0 : Int32)) C dX2_leastCube_5 (by decide) rfl ?_
  refine G_istore (pc' := 8) C dX2_leastCube_6 [(4, .int (0 : Int32)), (3, .int (a1 &&& (-a1))), (0, .ref (o + 22)), (1, .int a1), (2, .int a2)] (by decide) rfl rfl ?_
  replace h := ob h
  obtain ⟨e4, hle4, h⟩ := h
  refine G_sub (lv' := [(0, .ref (o + 22)), (1, .int a1), (2, .int a2), (3, .int (a1 &&& (-a1))), (4, .int (0 : Int32))]) [2, 3, 4, 1, 0] rfl ?_
  refine lpN_ind (body := fun u => fX2_leastCube_L8 o z a1 a2 (a1 &&& (-a1)) u) (P := fun u => GC κ p l e s m ([.ref (o + 22), .int a1, .int a2] : List Value).toArray below meth c rmX2_leastCube 5 o (some (Value.int q)) (CB κ o z) 0 0 z 8 [(0, .ref (o + 22)), (1, .int a1), (2, .int a2), (3, .int (a1 &&& (-a1))), (4, .int u)] []) (X := fun w => (∀ x, w = .inl x → GC κ p l e s m ([.ref (o + 22), .int a1, .int a2] : List Value).toArray below meth c rmX2_leastCube 5 o (some (Value.int q)) (CB κ o z) 0 0 z 57 [] []) ∧ (∀ rt, w = .inr rt → (some (Value.int q)) = (some (Value.int rt)) ∧ (CB κ o z) = (CB κ o z))) (fun u y hb kc kx => tX2_leastCube_L8 C hb kc kx) _ _ _ hle4 ?_
  refine ⟨fun x5 hxx5 => ?_, fun rt hrt => ?_⟩
  · subst hxx5
    replace h := z_sl h
    refine G_iconst (pc' := 58) (v := (0 : Int32)) C dX2_leastCube_57 (by decide) rfl ?_
    obtain rfl := Option.some.inj h
    exact G_iret C dX2_leastCube_58 (fun _ h => h)
  · subst hrt
    replace h := z_sr h
    obtain rfl := Option.some.inj h
    exact ⟨rfl, rfl⟩
theorem dX2_find_0 : decode cX2_find 0 = .ok (.aload_n 0, 1) := by decide +kernel
theorem dX2_find_1 : decode cX2_find 1 = .ok (.aload_n 1, 1) := by decide +kernel
theorem dX2_find_2 : decode cX2_find 2 = .ok (.getfield 21, 3) := by decide +kernel
theorem dX2_find_5 : decode cX2_find 5 = .ok (.invokestatic 27, 3) := by decide +kernel
theorem dX2_find_8 : decode cX2_find 8 = .ok (.putfield 33, 3) := by decide +kernel
theorem dX2_find_11 : decode cX2_find 11 = .ok (.iconst 0, 1) := by decide +kernel
theorem dX2_find_12 : decode cX2_find 12 = .ok (.istore_n 2, 1) := by decide +kernel
theorem dX2_find_13 : decode cX2_find 13 = .ok (.iload_n 2, 1) := by decide +kernel
theorem dX2_find_14 : decode cX2_find 14 = .ok (.aload_n 0, 1) := by decide +kernel
theorem dX2_find_15 : decode cX2_find 15 = .ok (.getfield 33, 3) := by decide +kernel
theorem dX2_find_18 : decode cX2_find 18 = .ok (.if_icmp .ge 20, 3) := by decide +kernel
theorem dX2_find_21 : decode cX2_find 21 = .ok (.aload_n 0, 1) := by decide +kernel
theorem dX2_find_22 : decode cX2_find 22 = .ok (.getfield 15, 3) := by decide +kernel
theorem dX2_find_25 : decode cX2_find 25 = .ok (.iload_n 2, 1) := by decide +kernel
theorem dX2_find_26 : decode cX2_find 26 = .ok (.aload_n 1, 1) := by decide +kernel
theorem dX2_find_27 : decode cX2_find 27 = .ok (.iload_n 2, 1) := by decide +kernel
theorem dX2_find_28 : decode cX2_find 28 = .ok (.invokestatic 36, 3) := by decide +kernel
theorem dX2_find_31 : decode cX2_find 31 = .ok (.iastore, 1) := by decide +kernel
theorem dX2_find_32 : decode cX2_find 32 = .ok (.iinc 2 1, 3) := by decide +kernel
theorem dX2_find_35 : decode cX2_find 35 = .ok (.goto (-22), 3) := by decide +kernel
theorem dX2_find_38 : decode cX2_find 38 = .ok (.iconst 0, 1) := by decide +kernel
theorem dX2_find_39 : decode cX2_find 39 = .ok (.istore_n 2, 1) := by decide +kernel
theorem dX2_find_40 : decode cX2_find 40 = .ok (.iload_n 2, 1) := by decide +kernel
theorem dX2_find_41 : decode cX2_find 41 = .ok (.aload_n 0, 1) := by decide +kernel
theorem dX2_find_42 : decode cX2_find 42 = .ok (.getfield 33, 3) := by decide +kernel
theorem dX2_find_45 : decode cX2_find 45 = .ok (.if_icmp .ge 33, 3) := by decide +kernel
theorem dX2_find_48 : decode cX2_find 48 = .ok (.aload_n 0, 1) := by decide +kernel
theorem dX2_find_49 : decode cX2_find 49 = .ok (.getfield 18, 3) := by decide +kernel
theorem dX2_find_52 : decode cX2_find 52 = .ok (.iload_n 2, 1) := by decide +kernel
theorem dX2_find_53 : decode cX2_find 53 = .ok (.aload_n 0, 1) := by decide +kernel
theorem dX2_find_54 : decode cX2_find 54 = .ok (.iload_n 2, 1) := by decide +kernel
theorem dX2_find_55 : decode cX2_find 55 = .ok (.invokevirtual 40, 3) := by decide +kernel
theorem dX2_find_58 : decode cX2_find 58 = .ok (.ifCond .eq 7, 3) := by decide +kernel
theorem dX2_find_61 : decode cX2_find 61 = .ok (.iconst 0, 1) := by decide +kernel
theorem dX2_find_62 : decode cX2_find 62 = .ok (.goto 9, 3) := by decide +kernel
theorem dX2_find_65 : decode cX2_find 65 = .ok (.aload_n 0, 1) := by decide +kernel
theorem dX2_find_66 : decode cX2_find 66 = .ok (.getfield 15, 3) := by decide +kernel
theorem dX2_find_69 : decode cX2_find 69 = .ok (.iload_n 2, 1) := by decide +kernel
theorem dX2_find_70 : decode cX2_find 70 = .ok (.iaload, 1) := by decide +kernel
theorem dX2_find_71 : decode cX2_find 71 = .ok (.iastore, 1) := by decide +kernel
theorem dX2_find_72 : decode cX2_find 72 = .ok (.iinc 2 1, 3) := by decide +kernel
theorem dX2_find_75 : decode cX2_find 75 = .ok (.goto (-35), 3) := by decide +kernel
theorem dX2_find_78 : decode cX2_find 78 = .ok (.iconst 0, 1) := by decide +kernel
theorem dX2_find_79 : decode cX2_find 79 = .ok (.istore_n 2, 1) := by decide +kernel
theorem dX2_find_80 : decode cX2_find 80 = .ok (.iconst 0, 1) := by decide +kernel
theorem dX2_find_81 : decode cX2_find 81 = .ok (.istore_n 3, 1) := by decide +kernel
theorem dX2_find_82 : decode cX2_find 82 = .ok (.iload_n 3, 1) := by decide +kernel
theorem dX2_find_83 : decode cX2_find 83 = .ok (.aload_n 1, 1) := by decide +kernel
theorem dX2_find_84 : decode cX2_find 84 = .ok (.getfield 44, 3) := by decide +kernel
theorem dX2_find_87 : decode cX2_find 87 = .ok (.arraylength, 1) := by decide +kernel
theorem dX2_find_88 : decode cX2_find 88 = .ok (.if_icmp .ge 29, 3) := by decide +kernel
theorem dX2_find_91 : decode cX2_find 91 = .ok (.iload_n 2, 1) := by decide +kernel
theorem dX2_find_92 : decode cX2_find 92 = .ok (.aload_n 1, 1) := by decide +kernel
theorem dX2_find_93 : decode cX2_find 93 = .ok (.getfield 44, 3) := by decide +kernel
theorem dX2_find_96 : decode cX2_find 96 = .ok (.iload_n 3, 1) := by decide +kernel
theorem dX2_find_97 : decode cX2_find 97 = .ok (.baload, 1) := by decide +kernel
theorem dX2_find_98 : decode cX2_find 98 = .ok (.iconst 1, 1) := by decide +kernel
theorem dX2_find_99 : decode cX2_find 99 = .ok (.if_icmp .ne 9, 3) := by decide +kernel
theorem dX2_find_102 : decode cX2_find 102 = .ok (.iconst 1, 1) := by decide +kernel
theorem dX2_find_103 : decode cX2_find 103 = .ok (.iload_n 3, 1) := by decide +kernel
theorem dX2_find_104 : decode cX2_find 104 = .ok (.ishl, 1) := by decide +kernel
theorem dX2_find_105 : decode cX2_find 105 = .ok (.goto 4, 3) := by decide +kernel
theorem dX2_find_108 : decode cX2_find 108 = .ok (.iconst 0, 1) := by decide +kernel
theorem dX2_find_109 : decode cX2_find 109 = .ok (.ior, 1) := by decide +kernel
theorem dX2_find_110 : decode cX2_find 110 = .ok (.istore_n 2, 1) := by decide +kernel
theorem dX2_find_111 : decode cX2_find 111 = .ok (.iinc 3 1, 3) := by decide +kernel
theorem dX2_find_114 : decode cX2_find 114 = .ok (.goto (-32), 3) := by decide +kernel
theorem dX2_find_117 : decode cX2_find 117 = .ok (.iconst 0, 1) := by decide +kernel
theorem dX2_find_118 : decode cX2_find 118 = .ok (.istore_n 3, 1) := by decide +kernel
theorem dX2_find_119 : decode cX2_find 119 = .ok (.iload_n 3, 1) := by decide +kernel
theorem dX2_find_120 : decode cX2_find 120 = .ok (.bipush 16, 2) := by decide +kernel
theorem dX2_find_122 : decode cX2_find 122 = .ok (.if_icmp .ge 18, 3) := by decide +kernel
theorem dX2_find_125 : decode cX2_find 125 = .ok (.aload_n 0, 1) := by decide +kernel
theorem dX2_find_126 : decode cX2_find 126 = .ok (.iload_n 2, 1) := by decide +kernel
theorem dX2_find_127 : decode cX2_find 127 = .ok (.iload_n 3, 1) := by decide +kernel
theorem dX2_find_128 : decode cX2_find 128 = .ok (.invokevirtual 48, 3) := by decide +kernel
theorem dX2_find_131 : decode cX2_find 131 = .ok (.ifCond .ne 9, 3) := by decide +kernel
theorem dX2_find_134 : decode cX2_find 134 = .ok (.iinc 3 1, 3) := by decide +kernel
theorem dX2_find_137 : decode cX2_find 137 = .ok (.goto (-18), 3) := by decide +kernel
theorem dX2_find_140 : decode cX2_find 140 = .ok (.aload_n 0, 1) := by decide +kernel
theorem dX2_find_141 : decode cX2_find 141 = .ok (.iload_n 3, 1) := by decide +kernel
theorem dX2_find_142 : decode cX2_find 142 = .ok (.putfield 52, 3) := by decide +kernel
theorem dX2_find_145 : decode cX2_find 145 = .ok (.iconst 0, 1) := by decide +kernel
theorem dX2_find_146 : decode cX2_find 146 = .ok (.istore 4, 2) := by decide +kernel
theorem dX2_find_148 : decode cX2_find 148 = .ok (.iload 4, 2) := by decide +kernel
theorem dX2_find_150 : decode cX2_find 150 = .ok (.aload_n 0, 1) := by decide +kernel
theorem dX2_find_151 : decode cX2_find 151 = .ok (.getfield 52, 3) := by decide +kernel
theorem dX2_find_154 : decode cX2_find 154 = .ok (.if_icmp .ge 47, 3) := by decide +kernel
theorem dX2_find_157 : decode cX2_find 157 = .ok (.aload_n 0, 1) := by decide +kernel
theorem dX2_find_158 : decode cX2_find 158 = .ok (.getfield 9, 3) := by decide +kernel
theorem dX2_find_161 : decode cX2_find 161 = .ok (.iload 4, 2) := by decide +kernel
theorem dX2_find_163 : decode cX2_find 163 = .ok (.aload_n 0, 1) := by decide +kernel
theorem dX2_find_164 : decode cX2_find 164 = .ok (.iload_n 2, 1) := by decide +kernel
theorem dX2_find_165 : decode cX2_find 165 = .ok (.aload_n 0, 1) := by decide +kernel
theorem dX2_find_166 : decode cX2_find 166 = .ok (.getfield 52, 3) := by decide +kernel
theorem dX2_find_169 : decode cX2_find 169 = .ok (.iload 4, 2) := by decide +kernel
theorem dX2_find_171 : decode cX2_find 171 = .ok (.isub, 1) := by decide +kernel
theorem dX2_find_172 : decode cX2_find 172 = .ok (.iconst 1, 1) := by decide +kernel
theorem dX2_find_173 : decode cX2_find 173 = .ok (.isub, 1) := by decide +kernel
theorem dX2_find_174 : decode cX2_find 174 = .ok (.invokevirtual 55, 3) := by decide +kernel
theorem dX2_find_177 : decode cX2_find 177 = .ok (.iastore, 1) := by decide +kernel
theorem dX2_find_178 : decode cX2_find 178 = .ok (.iload_n 2, 1) := by decide +kernel
theorem dX2_find_179 : decode cX2_find 179 = .ok (.aload_n 0, 1) := by decide +kernel
theorem dX2_find_180 : decode cX2_find 180 = .ok (.getfield 15, 3) := by decide +kernel
theorem dX2_find_183 : decode cX2_find 183 = .ok (.aload_n 0, 1) := by decide +kernel
theorem dX2_find_184 : decode cX2_find 184 = .ok (.getfield 9, 3) := by decide +kernel
theorem dX2_find_187 : decode cX2_find 187 = .ok (.iload 4, 2) := by decide +kernel
theorem dX2_find_189 : decode cX2_find 189 = .ok (.iaload, 1) := by decide +kernel
theorem dX2_find_190 : decode cX2_find 190 = .ok (.iaload, 1) := by decide +kernel
theorem dX2_find_191 : decode cX2_find 191 = .ok (.iconst (-1), 1) := by decide +kernel
theorem dX2_find_192 : decode cX2_find 192 = .ok (.ixor, 1) := by decide +kernel
theorem dX2_find_193 : decode cX2_find 193 = .ok (.iand, 1) := by decide +kernel
theorem dX2_find_194 : decode cX2_find 194 = .ok (.istore_n 2, 1) := by decide +kernel
theorem dX2_find_195 : decode cX2_find 195 = .ok (.iinc 4 1, 3) := by decide +kernel
theorem dX2_find_198 : decode cX2_find 198 = .ok (.goto (-50), 3) := by decide +kernel
theorem dX2_find_201 : decode cX2_find 201 = .ok (.return_, 1) := by decide +kernel
theorem yd_X2_find : yX2_find.cls = RX2 ∧ yX2_find.cls ≠ "java/lang/invoke/MethodHandle" ∧ yX2_find.cls ≠ "java/lang/invoke/VarHandle" ∧ (parseMethodDescriptor yX2_find.desc).map (fun d => d.parameters.length) = some 1 := by decide +kernel
abbrev rmX2_find : Room := { frames := 26, cells := 0, slots := 0, locals := 624 }
def fX2_find_L13 (o : Nat) (z : CS) (l1 : Nat) (l2 : Int32) : Option ((Int32 × CS) ⊕ CS) :=
  if (z.1 10) ≤ l2 then
    some (.inr z)
  else
    (fX2_inputsOf o z l1 l2).bind fun q3 =>
    (csA z 14 81 l2 q3).bind fun z4 =>
    some (.inl ((l2 + (1 : Int32)), z4))
def fX2_find_L40_J71 (o : Nat) (z : CS) (l1 : Nat) (l2 : Int32) (s0 : Int32) (s1 : Int32) : Option ((Int32 × CS) ⊕ CS) :=
  (csA z 15 81 s1 s0).bind fun z8 =>
  some (.inl ((l2 + (1 : Int32)), z8))
def fX2_find_L40 (o : Nat) (z : CS) (l1 : Nat) (l2 : Int32) : Option ((Int32 × CS) ⊕ CS) :=
  if (z.1 10) ≤ l2 then
    some (.inr z)
  else
    (fX2_hasWider o z l2).bind fun q6 =>
    if q6 = 0 then
      (aI 81 (z.2.1 14) l2).bind fun v7 =>
      fX2_find_L40_J71 o z l1 l2 v7 l2
    else
      fX2_find_L40_J71 o z l1 l2 (0 : Int32) l2
def fX2_find_L82_J109 (o : Nat) (z : CS) (l1 : Nat) (l3 : Int32) (s0 : Int32) (s1 : Int32) : Option ((Int32 × Int32) ⊕ Int32) :=
  some (.inl ((s1 ||| s0), (l3 + (1 : Int32))))
def fX2_find_L82 (o : Nat) (z : CS) (l1 : Nat) (l2 : Int32) (l3 : Int32) : Option ((Int32 × Int32) ⊕ Int32) :=
  (dT z l1).bind fun t10 =>
  (t10.2.2.2).bind fun ad11 =>
  (lnB z ad11).bind fun v12 =>
  if v12 ≤ l3 then
    some (.inr l2)
  else
    (dT z l1).bind fun t13 =>
    (t13.2.2.2).bind fun ad14 =>
    (rdB z ad14 l3).bind fun v15 =>
    if v15 = (1 : Int32) then
      fX2_find_L82_J109 o z l1 l3 ((1 : Int32) <<< (l3 &&& 31)) l2
    else
      fX2_find_L82_J109 o z l1 l3 (0 : Int32) l2
def fX2_find_L119 (o : Nat) (z : CS) (l2 : Int32) (l3 : Int32) : Option (Int32 ⊕ Int32) :=
  if (16 : Int32) ≤ l3 then
    some (.inr l3)
  else
    (fX2_canCover 24 o z l2 l3).bind fun q17 =>
    if q17 = 0 then
      some (.inl (l3 + (1 : Int32)))
    else
      some (.inr l3)
def fX2_find_L148 (o : Nat) (z : CS) (l2 : Int32) (l4 : Int32) : Option ((Int32 × Int32 × CS) ⊕ CS) :=
  if (z.1 9) ≤ l4 then
    some (.inr z)
  else
    (fX2_leastCube o z l2 (((z.1 9) - l4) - (1 : Int32))).bind fun q19 =>
    (csA z 13 16 l4 q19).bind fun z20 =>
    (aI 16 (z20.2.1 13) l4).bind fun v21 =>
    (aI 81 (z20.2.1 14) v21).bind fun v22 =>
    some (.inl ((l2 &&& (v22 ^^^ (-1 : Int32))), (l4 + (1 : Int32)), z20))
def fX2_find (o : Nat) (z : CS) (a1 : Nat) : Option (CS) :=
  (dT z a1).bind fun t1 =>
  (fX1_powerOf t1.2.1).bind fun q2 =>
  (lpN (fun u => fX2_find_L13 o u.2 a1 u.1) bigN ((0 : Int32), (cI z 10 q2))).bind fun e5 =>
  (lpN (fun u => fX2_find_L40 o u.2 a1 u.1) bigN ((0 : Int32), e5)).bind fun e9 =>
  (lpN (fun u => fX2_find_L82 o e9 a1 u.1 u.2) bigN ((0 : Int32), (0 : Int32))).bind fun e16 =>
  (lpN (fun u => fX2_find_L119 o e9 e16 u) bigN (0 : Int32)).bind fun e18 =>
  (lpN (fun u => fX2_find_L148 o u.2.2 u.1 u.2.1) bigN (e16, (0 : Int32), (cI e9 9 e18))).bind fun e23 =>
  some e23
set_option maxHeartbeats 4000000 in
set_option maxRecDepth 100000 in
theorem tX2_find_L13 {κ : KK} {p : Program} {l : Launch} {e : Env} {s : State} {m : MethodId} {args : Array Value} {below : List Frame} {meth : Method} {c : Code} (C : Cx κ p s m args meth c cX2_find 5 RX2 none) {o : Nat} {v : Option Value} {B' : Heap → Prop} {z : CS} {l1 : Nat} {l2 : Int32} {y : (Int32 × CS) ⊕ CS} (h : fX2_find_L13 o z l1 l2 = some y) (kc : ∀ u, y = .inl u → GC κ p l e s m args below meth c rmX2_find 5 o v B' 0 0 u.2 13 [(0, .ref (o + 22)), (1, .ref l1), (2, .int u.1)] []) (kx : ∀ w, y = .inr w → GC κ p l e s m args below meth c rmX2_find 5 o v B' 0 0 w 38 [(0, .ref (o + 22)), (1, .ref l1)] []) : GC κ p l e s m args below meth c rmX2_find 5 o v B' 0 0 z 13 [(0, .ref (o + 22)), (1, .ref l1), (2, .int l2)] [] := by
  unfold fX2_find_L13 at h
  refine G_iload_n (pc' := 14) C dX2_find_13 2 rfl rfl ?_
  refine G_aload_n (pc' := 15) C dX2_find_14 0 rfl rfl ?_
  refine G_get (pc' := 18) (k := 4) C fi_X2 dX2_find_15 tw_fl_X2_33 rfl (by decide) (CB_rd 22 rfl) rfl rfl ?_
  refine G_icmp_ge (tgt := 38) (pc' := 21) C dX2_find_18 (by decide) rfl (fun hc => ?_) (fun hc => ?_)
  · replace h := z_ip hc h
    exact G_sub (lv' := [(0, .ref (o + 22)), (1, .ref l1)]) [0, 1] rfl (kx _ (Option.some.inj h).symm)
  · replace h := z_in hc h
    refine G_aload_n (pc' := 22) C dX2_find_21 0 rfl rfl ?_
    refine G_get (pc' := 25) (k := 2) C fi_X2 dX2_find_22 tw_fl_X2_15 rfl (by decide) (CB_rd 22 rfl) rfl rfl ?_
    refine G_iload_n (pc' := 26) C dX2_find_25 2 rfl rfl ?_
    refine G_aload_n (pc' := 27) C dX2_find_26 1 rfl rfl ?_
    refine G_iload_n (pc' := 28) C dX2_find_27 2 rfl rfl ?_
    replace h := ob h
    obtain ⟨q3, hq3, h⟩ := h
    refine G_cS0 (pc' := 31) C dX2_find_28 (tX2_inputsOf κ l o z l1 l2 q3 hq3) (wS tw_ml_X2_36 tw_st_X2_inputsOf tw_co_X2_inputsOf tw_in_X2) yd_X2_inputsOf rfl rfl rfl (by decide) rfl (Nat.le_of_ble_eq_true rfl) rfl rfl ?_
    replace h := ob h
    obtain ⟨z4, hz4, h⟩ := h
    refine C_s_24 (pc' := 32) C dX2_find_31 hz4 rfl ?_
    refine G_iinc (pc' := 35) C dX2_find_32 2 rfl rfl [(2, .int (l2 + (1 : Int32))), (0, .ref (o + 22)), (1, .ref l1)] (by decide) rfl rfl ?_
    refine G_goto (tgt := 13) C dX2_find_35 (by decide) ?_
    exact G_sub (lv' := [(0, .ref (o + 22)), (1, .ref l1), (2, .int (l2 + (1 : Int32)))]) [1, 2, 0] rfl (kc ((l2 + (1 : Int32)), z4) (Option.some.inj h).symm)
set_option maxHeartbeats 4000000 in
set_option maxRecDepth 100000 in
theorem tX2_find_L40 {κ : KK} {p : Program} {l : Launch} {e : Env} {s : State} {m : MethodId} {args : Array Value} {below : List Frame} {meth : Method} {c : Code} (C : Cx κ p s m args meth c cX2_find 5 RX2 none) {o : Nat} {v : Option Value} {B' : Heap → Prop} {z : CS} {l1 : Nat} {l2 : Int32} {y : (Int32 × CS) ⊕ CS} (h : fX2_find_L40 o z l1 l2 = some y) (kc : ∀ u, y = .inl u → GC κ p l e s m args below meth c rmX2_find 5 o v B' 0 0 u.2 40 [(0, .ref (o + 22)), (1, .ref l1), (2, .int u.1)] []) (kx : ∀ w, y = .inr w → GC κ p l e s m args below meth c rmX2_find 5 o v B' 0 0 w 78 [(0, .ref (o + 22)), (1, .ref l1)] []) : GC κ p l e s m args below meth c rmX2_find 5 o v B' 0 0 z 40 [(0, .ref (o + 22)), (1, .ref l1), (2, .int l2)] [] := by
  have J71 : ∀ (z : CS) (l2 : Int32) (s0 : Int32) (s1 : Int32), fX2_find_L40_J71 o z l1 l2 s0 s1 = some y → GC κ p l e s m args below meth c rmX2_find 5 o v B' 0 0 z 71 [(0, .ref (o + 22)), (1, .ref l1), (2, .int l2)] [.int s0, .int s1, .ref (o + 25)] := by
    intro z l2 s0 s1 h
    unfold fX2_find_L40_J71 at h
    replace h := ob h
    obtain ⟨z8, hz8, h⟩ := h
    refine C_s_25 (pc' := 72) C dX2_find_71 hz8 rfl ?_
    refine G_iinc (pc' := 75) C dX2_find_72 2 rfl rfl [(2, .int (l2 + (1 : Int32))), (0, .ref (o + 22)), (1, .ref l1)] (by decide) rfl rfl ?_
    refine G_goto (tgt := 40) C dX2_find_75 (by decide) ?_
    exact G_sub (lv' := [(0, .ref (o + 22)), (1, .ref l1), (2, .int (l2 + (1 : Int32)))]) [1, 2, 0] rfl (kc ((l2 + (1 : Int32)), z8) (Option.some.inj h).symm)
  unfold fX2_find_L40 at h
  refine G_iload_n (pc' := 41) C dX2_find_40 2 rfl rfl ?_
  refine G_aload_n (pc' := 42) C dX2_find_41 0 rfl rfl ?_
  refine G_get (pc' := 45) (k := 4) C fi_X2 dX2_find_42 tw_fl_X2_33 rfl (by decide) (CB_rd 22 rfl) rfl rfl ?_
  refine G_icmp_ge (tgt := 78) (pc' := 48) C dX2_find_45 (by decide) rfl (fun hc => ?_) (fun hc => ?_)
  · replace h := z_ip hc h
    exact G_sub (lv' := [(0, .ref (o + 22)), (1, .ref l1)]) [0, 1] rfl (kx _ (Option.some.inj h).symm)
  · replace h := z_in hc h
    refine G_aload_n (pc' := 49) C dX2_find_48 0 rfl rfl ?_
    refine G_get (pc' := 52) (k := 3) C fi_X2 dX2_find_49 tw_fl_X2_18 rfl (by decide) (CB_rd 22 rfl) rfl rfl ?_
    refine G_iload_n (pc' := 53) C dX2_find_52 2 rfl rfl ?_
    refine G_aload_n (pc' := 54) C dX2_find_53 0 rfl rfl ?_
    refine G_iload_n (pc' := 55) C dX2_find_54 2 rfl rfl ?_
    replace h := ob h
    obtain ⟨q6, hq6, h⟩ := h
    refine G_cV0 (pc' := 58) C dX2_find_55 (tX2_hasWider κ l o z l2 q6 hq6) (wV tw_ml_X2_40 tw_im_X2_hasWider tw_se_X2_X2_hasWider tw_in_X2 tw_co_X2_hasWider) yd_X2_hasWider rfl fi_X2 (CB_rd 22 rfl) rfl rfl (by decide) rfl (Nat.le_of_ble_eq_true rfl) rfl rfl ?_
    refine G_if_eq (tgt := 65) (pc' := 61) C dX2_find_58 (by decide) rfl (fun hc => ?_) (fun hc => ?_)
    · replace h := z_ip hc h
      refine G_aload_n (pc' := 66) C dX2_find_65 0 rfl rfl ?_
      refine G_get (pc' := 69) (k := 2) C fi_X2 dX2_find_66 tw_fl_X2_15 rfl (by decide) (CB_rd 22 rfl) rfl rfl ?_
      refine G_iload_n (pc' := 70) C dX2_find_69 2 rfl rfl ?_
      replace h := ob h
      obtain ⟨v7, hv7, h⟩ := h
      refine G_ialdV (pc' := 71) C dX2_find_70 (CB_rd 24 rfl) hv7 rfl ?_
      exact G_sub (lv' := [(0, .ref (o + 22)), (1, .ref l1), (2, .int l2)]) [0, 1, 2] rfl (J71 z l2 v7 l2 h)
    · replace h := z_in hc h
      refine G_iconst (pc' := 62) (v := (0 : Int32)) C dX2_find_61 (by decide) rfl ?_
      refine G_goto (tgt := 71) C dX2_find_62 (by decide) ?_
      exact G_sub (lv' := [(0, .ref (o + 22)), (1, .ref l1), (2, .int l2)]) [0, 1, 2] rfl (J71 z l2 (0 : Int32) l2 h)
set_option maxHeartbeats 4000000 in
set_option maxRecDepth 100000 in
theorem tX2_find_L82 {κ : KK} {p : Program} {l : Launch} {e : Env} {s : State} {m : MethodId} {args : Array Value} {below : List Frame} {meth : Method} {c : Code} (C : Cx κ p s m args meth c cX2_find 5 RX2 none) {o : Nat} {v : Option Value} {B' : Heap → Prop} {z : CS} {l1 : Nat} {l2 : Int32} {l3 : Int32} {y : (Int32 × Int32) ⊕ Int32} (h : fX2_find_L82 o z l1 l2 l3 = some y) (kc : ∀ u, y = .inl u → GC κ p l e s m args below meth c rmX2_find 5 o v B' 0 0 z 82 [(0, .ref (o + 22)), (1, .ref l1), (2, .int u.1), (3, .int u.2)] []) (kx : ∀ w, y = .inr w → GC κ p l e s m args below meth c rmX2_find 5 o v B' 0 0 z 117 [(0, .ref (o + 22)), (2, .int w)] []) : GC κ p l e s m args below meth c rmX2_find 5 o v B' 0 0 z 82 [(0, .ref (o + 22)), (1, .ref l1), (2, .int l2), (3, .int l3)] [] := by
  have J109 : ∀ (l3 : Int32) (s0 : Int32) (s1 : Int32), fX2_find_L82_J109 o z l1 l3 s0 s1 = some y → GC κ p l e s m args below meth c rmX2_find 5 o v B' 0 0 z 109 [(0, .ref (o + 22)), (1, .ref l1), (3, .int l3)] [.int s0, .int s1] := by
    intro l3 s0 s1 h
    unfold fX2_find_L82_J109 at h
    refine G_ior (pc' := 110) C dX2_find_109 rfl ?_
    refine G_istore_n (pc' := 111) C dX2_find_110 [(2, .int (s1 ||| s0)), (0, .ref (o + 22)), (1, .ref l1), (3, .int l3)] (by decide) rfl rfl ?_
    refine G_iinc (pc' := 114) C dX2_find_111 3 rfl rfl [(3, .int (l3 + (1 : Int32))), (2, .int (s1 ||| s0)), (0, .ref (o + 22)), (1, .ref l1)] (by decide) rfl rfl ?_
    refine G_goto (tgt := 82) C dX2_find_114 (by decide) ?_
    exact G_sub (lv' := [(0, .ref (o + 22)), (1, .ref l1), (2, .int (s1 ||| s0)), (3, .int (l3 + (1 : Int32)))]) [2, 3, 1, 0] rfl (kc ((s1 ||| s0), (l3 + (1 : Int32))) (Option.some.inj h).symm)
  unfold fX2_find_L82 at h
  refine G_iload_n (pc' := 83) C dX2_find_82 3 rfl rfl ?_
  refine G_aload_n (pc' := 84) C dX2_find_83 1 rfl rfl ?_
  replace h := ob h
  obtain ⟨t10, ht10, h⟩ := h
  refine G_get (pc' := 87) (k := 3) C fi_X8 dX2_find_84 tw_fl_X2_44 rfl (by decide) (CB_T ht10) rfl rfl ?_
  replace h := ob h
  obtain ⟨ad11, had11, h⟩ := h
  rw [had11]
  replace h := ob h
  obtain ⟨v12, hv12, h⟩ := h
  refine P_lenB (pc' := 88) C dX2_find_87 hv12 rfl ?_
  refine G_icmp_ge (tgt := 117) (pc' := 91) C dX2_find_88 (by decide) rfl (fun hc => ?_) (fun hc => ?_)
  · replace h := z_ip hc h
    exact G_sub (lv' := [(0, .ref (o + 22)), (2, .int l2)]) [0, 2] rfl (kx _ (Option.some.inj h).symm)
  · replace h := z_in hc h
    refine G_iload_n (pc' := 92) C dX2_find_91 2 rfl rfl ?_
    refine G_aload_n (pc' := 93) C dX2_find_92 1 rfl rfl ?_
    replace h := ob h
    obtain ⟨t13, ht13, h⟩ := h
    refine G_get (pc' := 96) (k := 3) C fi_X8 dX2_find_93 tw_fl_X2_44 rfl (by decide) (CB_T ht13) rfl rfl ?_
    refine G_iload_n (pc' := 97) C dX2_find_96 3 rfl rfl ?_
    replace h := ob h
    obtain ⟨ad14, had14, h⟩ := h
    rw [had14]
    replace h := ob h
    obtain ⟨v15, hv15, h⟩ := h
    refine P_bald (pc' := 98) C dX2_find_97 hv15 rfl ?_
    refine G_iconst (pc' := 99) (v := (1 : Int32)) C dX2_find_98 (by decide) rfl ?_
    refine G_icmp_ne (tgt := 108) (pc' := 102) C dX2_find_99 (by decide) rfl (fun hc => ?_) (fun hc => ?_)
    · replace h := z_in hc h
      refine G_iconst (pc' := 109) (v := (0 : Int32)) C dX2_find_108 (by decide) rfl ?_
      exact G_sub (lv' := [(0, .ref (o + 22)), (1, .ref l1), (3, .int l3)]) [0, 1, 3] rfl (J109 l3 (0 : Int32) l2 h)
    · replace h := z_ip hc h
      refine G_iconst (pc' := 103) (v := (1 : Int32)) C dX2_find_102 (by decide) rfl ?_
      refine G_iload_n (pc' := 104) C dX2_find_103 3 rfl rfl ?_
      refine G_ishl (pc' := 105) C dX2_find_104 rfl ?_
      refine G_goto (tgt := 109) C dX2_find_105 (by decide) ?_
      exact G_sub (lv' := [(0, .ref (o + 22)), (1, .ref l1), (3, .int l3)]) [0, 1, 3] rfl (J109 l3 ((1 : Int32) <<< (l3 &&& 31)) l2 h)
set_option maxHeartbeats 4000000 in
set_option maxRecDepth 100000 in
theorem tX2_find_L119 {κ : KK} {p : Program} {l : Launch} {e : Env} {s : State} {m : MethodId} {args : Array Value} {below : List Frame} {meth : Method} {c : Code} (C : Cx κ p s m args meth c cX2_find 5 RX2 none) {o : Nat} {v : Option Value} {B' : Heap → Prop} {z : CS} {l2 : Int32} {l3 : Int32} {y : Int32 ⊕ Int32} (h : fX2_find_L119 o z l2 l3 = some y) (kc : ∀ u, y = .inl u → GC κ p l e s m args below meth c rmX2_find 5 o v B' 0 0 z 119 [(0, .ref (o + 22)), (2, .int l2), (3, .int u)] []) (kx : ∀ w, y = .inr w → GC κ p l e s m args below meth c rmX2_find 5 o v B' 0 0 z 140 [(0, .ref (o + 22)), (2, .int l2), (3, .int w)] []) : GC κ p l e s m args below meth c rmX2_find 5 o v B' 0 0 z 119 [(0, .ref (o + 22)), (2, .int l2), (3, .int l3)] [] := by
  unfold fX2_find_L119 at h
  refine G_iload_n (pc' := 120) C dX2_find_119 2 rfl rfl ?_
  refine G_bipush (pc' := 122) (v := (16 : Int32)) C dX2_find_120 (by decide) rfl ?_
  refine G_icmp_ge (tgt := 140) (pc' := 125) C dX2_find_122 (by decide) rfl (fun hc => ?_) (fun hc => ?_)
  · replace h := z_ip hc h
    exact G_sub (lv' := [(0, .ref (o + 22)), (2, .int l2), (3, .int l3)]) [0, 1, 2] rfl (kx _ (Option.some.inj h).symm)
  · replace h := z_in hc h
    refine G_aload_n (pc' := 126) C dX2_find_125 0 rfl rfl ?_
    refine G_iload_n (pc' := 127) C dX2_find_126 1 rfl rfl ?_
    refine G_iload_n (pc' := 128) C dX2_find_127 2 rfl rfl ?_
    replace h := ob h
    obtain ⟨q17, hq17, h⟩ := h
    refine G_cV0 (pc' := 131) C dX2_find_128 (tX2_canCover κ l o 24 z l2 l3 q17 hq17) (wV tw_ml_X2_48 tw_im_X2_canCover tw_se_X2_X2_canCover tw_in_X2 tw_co_X2_canCover) yd_X2_canCover rfl fi_X2 (CB_rd 22 rfl) rfl rfl (by decide) rfl (Nat.le_of_ble_eq_true rfl) rfl rfl ?_
    refine G_if_ne (tgt := 140) (pc' := 134) C dX2_find_131 (by decide) rfl (fun hc => ?_) (fun hc => ?_)
    · replace h := z_in hc h
      exact G_sub (lv' := [(0, .ref (o + 22)), (2, .int l2), (3, .int l3)]) [0, 1, 2] rfl (kx _ (Option.some.inj h).symm)
    · replace h := z_ip hc h
      refine G_iinc (pc' := 137) C dX2_find_134 2 rfl rfl [(3, .int (l3 + (1 : Int32))), (0, .ref (o + 22)), (2, .int l2)] (by decide) rfl rfl ?_
      refine G_goto (tgt := 119) C dX2_find_137 (by decide) ?_
      exact G_sub (lv' := [(0, .ref (o + 22)), (2, .int l2), (3, .int (l3 + (1 : Int32)))]) [1, 2, 0] rfl (kc (l3 + (1 : Int32)) (Option.some.inj h).symm)
set_option maxHeartbeats 4000000 in
set_option maxRecDepth 100000 in
theorem tX2_find_L148 {κ : KK} {p : Program} {l : Launch} {e : Env} {s : State} {m : MethodId} {args : Array Value} {below : List Frame} {meth : Method} {c : Code} (C : Cx κ p s m args meth c cX2_find 5 RX2 none) {o : Nat} {v : Option Value} {B' : Heap → Prop} {z : CS} {l2 : Int32} {l4 : Int32} {y : (Int32 × Int32 × CS) ⊕ CS} (h : fX2_find_L148 o z l2 l4 = some y) (kc : ∀ u, y = .inl u → GC κ p l e s m args below meth c rmX2_find 5 o v B' 0 0 u.2.2 148 [(0, .ref (o + 22)), (2, .int u.1), (4, .int u.2.1)] []) (kx : ∀ w, y = .inr w → GC κ p l e s m args below meth c rmX2_find 5 o v B' 0 0 w 201 [] []) : GC κ p l e s m args below meth c rmX2_find 5 o v B' 0 0 z 148 [(0, .ref (o + 22)), (2, .int l2), (4, .int l4)] [] := by
  unfold fX2_find_L148 at h
  refine G_iload (pc' := 150) C dX2_find_148 2 rfl rfl ?_
  refine G_aload_n (pc' := 151) C dX2_find_150 0 rfl rfl ?_
  refine G_get (pc' := 154) (k := 1) C fi_X2 dX2_find_151 tw_fl_X2_52 rfl (by decide) (CB_rd 22 rfl) rfl rfl ?_
  refine G_icmp_ge (tgt := 201) (pc' := 157) C dX2_find_154 (by decide) rfl (fun hc => ?_) (fun hc => ?_)
  · replace h := z_ip hc h
    exact G_sub (lv' := []) [] rfl (kx _ (Option.some.inj h).symm)
  · replace h := z_in hc h
    refine G_aload_n (pc' := 158) C dX2_find_157 0 rfl rfl ?_
    refine G_get (pc' := 161) (k := 0) C fi_X2 dX2_find_158 tw_fl_X2_9 rfl (by decide) (CB_rd 22 rfl) rfl rfl ?_
    refine G_iload (pc' := 163) C dX2_find_161 2 rfl rfl ?_
    refine G_aload_n (pc' := 164) C dX2_find_163 0 rfl rfl ?_
    refine G_iload_n (pc' := 165) C dX2_find_164 1 rfl rfl ?_
    refine G_aload_n (pc' := 166) C dX2_find_165 0 rfl rfl ?_
    refine G_get (pc' := 169) (k := 1) C fi_X2 dX2_find_166 tw_fl_X2_52 rfl (by decide) (CB_rd 22 rfl) rfl rfl ?_
    refine G_iload (pc' := 171) C dX2_find_169 2 rfl rfl ?_
    refine G_isub (pc' := 172) C dX2_find_171 rfl ?_
    refine G_iconst (pc' := 173) (v := (1 : Int32)) C dX2_find_172 (by decide) rfl ?_
    refine G_isub (pc' := 174) C dX2_find_173 rfl ?_
    replace h := ob h
    obtain ⟨q19, hq19, h⟩ := h
    refine G_cV0 (pc' := 177) C dX2_find_174 (tX2_leastCube κ l o z l2 (((z.1 9) - l4) - (1 : Int32)) q19 hq19) (wV tw_ml_X2_55 tw_im_X2_leastCube tw_se_X2_X2_leastCube tw_in_X2 tw_co_X2_leastCube) yd_X2_leastCube rfl fi_X2 (CB_rd 22 rfl) rfl rfl (by decide) rfl (Nat.le_of_ble_eq_true rfl) rfl rfl ?_
    replace h := ob h
    obtain ⟨z20, hz20, h⟩ := h
    refine C_s_23 (pc' := 178) C dX2_find_177 hz20 rfl ?_
    refine G_iload_n (pc' := 179) C dX2_find_178 1 rfl rfl ?_
    refine G_aload_n (pc' := 180) C dX2_find_179 0 rfl rfl ?_
    refine G_get (pc' := 183) (k := 2) C fi_X2 dX2_find_180 tw_fl_X2_15 rfl (by decide) (CB_rd 22 rfl) rfl rfl ?_
    refine G_aload_n (pc' := 184) C dX2_find_183 0 rfl rfl ?_
    refine G_get (pc' := 187) (k := 0) C fi_X2 dX2_find_184 tw_fl_X2_9 rfl (by decide) (CB_rd 22 rfl) rfl rfl ?_
    refine G_iload (pc' := 189) C dX2_find_187 2 rfl rfl ?_
    replace h := ob h
    obtain ⟨v21, hv21, h⟩ := h
    refine G_ialdV (pc' := 190) C dX2_find_189 (CB_rd 23 rfl) hv21 rfl ?_
    replace h := ob h
    obtain ⟨v22, hv22, h⟩ := h
    refine G_ialdV (pc' := 191) C dX2_find_190 (CB_rd 24 rfl) hv22 rfl ?_
    refine G_iconst (pc' := 192) (v := (-1 : Int32)) C dX2_find_191 (by decide) rfl ?_
    refine G_ixor (pc' := 193) C dX2_find_192 rfl ?_
    refine G_iand (pc' := 194) C dX2_find_193 rfl ?_
    refine G_istore_n (pc' := 195) C dX2_find_194 [(2, .int (l2 &&& (v22 ^^^ (-1 : Int32)))), (0, .ref (o + 22)), (4, .int l4)] (by decide) rfl rfl ?_
    refine G_iinc (pc' := 198) C dX2_find_195 2 rfl rfl [(4, .int (l4 + (1 : Int32))), (2, .int (l2 &&& (v22 ^^^ (-1 : Int32)))), (0, .ref (o + 22))] (by decide) rfl rfl ?_
    refine G_goto (tgt := 148) C dX2_find_198 (by decide) ?_
    exact G_sub (lv' := [(0, .ref (o + 22)), (2, .int (l2 &&& (v22 ^^^ (-1 : Int32)))), (4, .int (l4 + (1 : Int32)))]) [2, 1, 0] rfl (kc ((l2 &&& (v22 ^^^ (-1 : Int32))), (l4 + (1 : Int32)), z20) (Option.some.inj h).symm)
set_option maxHeartbeats 4000000 in
set_option maxRecDepth 100000 in
theorem tX2_find (κ : KK) (l : Launch) (o : Nat) (z : CS) (a1 : Nat) (q : CS) (h : fX2_find o z a1 = some q) : MM κ l yX2_find cX2_find 5 none rmX2_find (CA o) [.ref (o + 22), .ref a1] (CB κ o z) none (CB κ o q) := by
  refine MM.of (by decide +kernel) (Nat.le_of_ble_eq_true rfl) ?_
  intro p e s m below meth c C hnm
  unfold fX2_find at h
  refine G_sub (lv' := [(0, .ref (o + 22)), (1, .ref a1)]) [0, 1] rfl ?_
  refine G_aload_n (pc' := 1) C dX2_find_0 0 rfl rfl ?_
  refine G_aload_n (pc' := 2) C dX2_find_1 1 rfl rfl ?_
  replace h := ob h
  obtain ⟨t1, ht1, h⟩ := h
  refine G_get (pc' := 5) (k := 1) C fi_X8 dX2_find_2 tw_fl_X2_21 rfl (by decide) (CB_T ht1) rfl rfl ?_
  replace h := ob h
  obtain ⟨q2, hq2, h⟩ := h
  refine G_cS0 (pc' := 8) C dX2_find_5 (tX1_powerOf κ l (CA o) (CB κ o z) t1.2.1 q2 hq2) (wS tw_ml_X2_27 tw_st_X1_powerOf tw_co_X1_powerOf tw_in_X1) yd_X1_powerOf rfl rfl rfl (by decide) rfl (Nat.le_of_ble_eq_true rfl) rfl rfl ?_
  refine G_put (pc' := 11) (k := 4) C fi_X2 dX2_find_8 tw_fl_X2_33 rfl (by decide) rfl rfl rfl (Nat.le_of_ble_eq_true rfl) (CB_rd 22 rfl) (CB_wr (cI z 10 q2) 22 (by decide) rfl rfl) rfl ?_
  refine G_iconst (pc' := 12) (v := (0 : Int32)) C dX2_find_11 (by decide) rfl ?_
  refine G_istore_n (pc' := 13) C dX2_find_12 [(2, .int (0 : Int32)), (0, .ref (o + 22)), (1, .ref a1)] (by decide) rfl rfl ?_
  replace h := ob h
  obtain ⟨e5, hle5, h⟩ := h
  refine G_sub (lv' := [(0, .ref (o + 22)), (1, .ref a1), (2, .int (0 : Int32))]) [1, 2, 0] rfl ?_
  refine lpN_ind (body := fun u => fX2_find_L13 o u.2 a1 u.1) (P := fun u => GC κ p l e s m ([.ref (o + 22), .ref a1] : List Value).toArray below meth c rmX2_find 5 o none (CB κ o q) 0 0 u.2 13 [(0, .ref (o + 22)), (1, .ref a1), (2, .int u.1)] []) (X := fun w => GC κ p l e s m ([.ref (o + 22), .ref a1] : List Value).toArray below meth c rmX2_find 5 o none (CB κ o q) 0 0 w 38 [(0, .ref (o + 22)), (1, .ref a1)] []) (fun u y hb kc kx => tX2_find_L13 C hb kc kx) _ _ _ hle5 ?_
  refine G_iconst (pc' := 39) (v := (0 : Int32)) C dX2_find_38 (by decide) rfl ?_
  refine G_istore_n (pc' := 40) C dX2_find_39 [(2, .int (0 : Int32)), (0, .ref (o + 22)), (1, .ref a1)] (by decide) rfl rfl ?_
  replace h := ob h
  obtain ⟨e9, hle9, h⟩ := h
  refine G_sub (lv' := [(0, .ref (o + 22)), (1, .ref a1), (2, .int (0 : Int32))]) [1, 2, 0] rfl ?_
  refine lpN_ind (body := fun u => fX2_find_L40 o u.2 a1 u.1) (P := fun u => GC κ p l e s m ([.ref (o + 22), .ref a1] : List Value).toArray below meth c rmX2_find 5 o none (CB κ o q) 0 0 u.2 40 [(0, .ref (o + 22)), (1, .ref a1), (2, .int u.1)] []) (X := fun w => GC κ p l e s m ([.ref (o + 22), .ref a1] : List Value).toArray below meth c rmX2_find 5 o none (CB κ o q) 0 0 w 78 [(0, .ref (o + 22)), (1, .ref a1)] []) (fun u y hb kc kx => tX2_find_L40 C hb kc kx) _ _ _ hle9 ?_
  refine G_iconst (pc' := 79) (v := (0 : Int32)) C dX2_find_78 (by decide) rfl ?_
  refine G_istore_n (pc' := 80) C dX2_find_79 [(2, .int (0 : Int32)), (0, .ref (o + 22)), (1, .ref a1)] (by decide) rfl rfl ?_
  refine G_iconst (pc' := 81) (v := (0 : Int32)) C dX2_find_80 (by decide) rfl ?_
  refine G_istore_n (pc' := 82) C dX2_find_81 [(3, .int (0 : Int32)), (2, .int (0 : Int32)), (0, .ref (o + 22)), (1, .ref a1)] (by decide) rfl rfl ?_
  replace h := ob h
  obtain ⟨e16, hle16, h⟩ := h
  refine G_sub (lv' := [(0, .ref (o + 22)), (1, .ref a1), (2, .int (0 : Int32)), (3, .int (0 : Int32))]) [2, 3, 1, 0] rfl ?_
  refine lpN_ind (body := fun u => fX2_find_L82 o e9 a1 u.1 u.2) (P := fun u => GC κ p l e s m ([.ref (o + 22), .ref a1] : List Value).toArray below meth c rmX2_find 5 o none (CB κ o q) 0 0 e9 82 [(0, .ref (o + 22)), (1, .ref a1), (2, .int u.1), (3, .int u.2)] []) (X := fun w => GC κ p l e s m ([.ref (o + 22), .ref a1] : List Value).toArray below meth c rmX2_find 5 o none (CB κ o q) 0 0 e9 117 [(0, .ref (o + 22)), (2, .int w)] []) (fun u y hb kc kx => tX2_find_L82 C hb kc kx) _ _ _ hle16 ?_
  refine G_iconst (pc' := 118) (v := (0 : Int32)) C dX2_find_117 (by decide) rfl ?_
  refine G_istore_n (pc' := 119) C dX2_find_118 [(3, .int (0 : Int32)), (0, .ref (o + 22)), (2, .int e16)] (by decide) rfl rfl ?_
  replace h := ob h
  obtain ⟨e18, hle18, h⟩ := h
  refine G_sub (lv' := [(0, .ref (o + 22)), (2, .int e16), (3, .int (0 : Int32))]) [1, 2, 0] rfl ?_
  refine lpN_ind (body := fun u => fX2_find_L119 o e9 e16 u) (P := fun u => GC κ p l e s m ([.ref (o + 22), .ref a1] : List Value).toArray below meth c rmX2_find 5 o none (CB κ o q) 0 0 e9 119 [(0, .ref (o + 22)), (2, .int e16), (3, .int u)] []) (X := fun w => GC κ p l e s m ([.ref (o + 22), .ref a1] : List Value).toArray below meth c rmX2_find 5 o none (CB κ o q) 0 0 e9 140 [(0, .ref (o + 22)), (2, .int e16), (3, .int w)] []) (fun u y hb kc kx => tX2_find_L119 C hb kc kx) _ _ _ hle18 ?_
  refine G_aload_n (pc' := 141) C dX2_find_140 0 rfl rfl ?_
  refine G_iload_n (pc' := 142) C dX2_find_141 2 rfl rfl ?_
  refine G_put (pc' := 145) (k := 1) C fi_X2 dX2_find_142 tw_fl_X2_52 rfl (by decide) rfl rfl rfl (Nat.le_of_ble_eq_true rfl) (CB_rd 22 rfl) (CB_wr (cI e9 9 e18) 22 (by decide) rfl rfl) rfl ?_
  refine G_iconst (pc' := 146) (v := (0 : Int32)) C dX2_find_145 (by decide) rfl ?_
  refine G_istore (pc' := 148) C dX2_find_146 [(4, .int (0 : Int32)), (0, .ref (o + 22)), (2, .int e16), (3, .int e18)] (by decide) rfl rfl ?_
  replace h := ob h
  obtain ⟨e23, hle23, h⟩ := h
  refine G_sub (lv' := [(0, .ref (o + 22)), (2, .int e16), (4, .int (0 : Int32))]) [1, 2, 0] rfl ?_
  refine lpN_ind (body := fun u => fX2_find_L148 o u.2.2 u.1 u.2.1) (P := fun u => GC κ p l e s m ([.ref (o + 22), .ref a1] : List Value).toArray below meth c rmX2_find 5 o none (CB κ o q) 0 0 u.2.2 148 [(0, .ref (o + 22)), (2, .int u.1), (4, .int u.2.1)] []) (X := fun w => GC κ p l e s m ([.ref (o + 22), .ref a1] : List Value).toArray below meth c rmX2_find 5 o none (CB κ o q) 0 0 w 201 [] []) (fun u y hb kc kx => tX2_find_L148 C hb kc kx) _ _ _ hle23 ?_
  refine G_widen (k := rmX2_find.cells) (n := rmX2_find.slots) (by decide) (by decide) ?_
  obtain rfl := Option.some.inj h
  exact G_vret C dX2_find_201 (fun _ h => h)
theorem dX9_form_0 : decode cX9_form 0 = .ok (.aload_n 0, 1) := by decide +kernel
theorem dX9_form_1 : decode cX9_form 1 = .ok (.iload_n 1, 1) := by decide +kernel
theorem dX9_form_2 : decode cX9_form 2 = .ok (.invokevirtual 145, 3) := by decide +kernel
theorem dX9_form_5 : decode cX9_form 5 = .ok (.istore_n 2, 1) := by decide +kernel
theorem dX9_form_6 : decode cX9_form 6 = .ok (.iload_n 2, 1) := by decide +kernel
theorem dX9_form_7 : decode cX9_form 7 = .ok (.ifCond .eq 5, 3) := by decide +kernel
theorem dX9_form_10 : decode cX9_form 10 = .ok (.iload_n 2, 1) := by decide +kernel
theorem dX9_form_11 : decode cX9_form 11 = .ok (.ireturn, 1) := by decide +kernel
theorem dX9_form_12 : decode cX9_form 12 = .ok (.aload_n 0, 1) := by decide +kernel
theorem dX9_form_13 : decode cX9_form 13 = .ok (.getfield 17, 3) := by decide +kernel
theorem dX9_form_16 : decode cX9_form 16 = .ok (.iload_n 1, 1) := by decide +kernel
theorem dX9_form_17 : decode cX9_form 17 = .ok (.aaload, 1) := by decide +kernel
theorem dX9_form_18 : decode cX9_form 18 = .ok (.getfield 152, 3) := by decide +kernel
theorem dX9_form_21 : decode cX9_form 21 = .ok (.iconst 4, 1) := by decide +kernel
theorem dX9_form_22 : decode cX9_form 22 = .ok (.if_icmp .le 6, 3) := by decide +kernel
theorem dX9_form_25 : decode cX9_form 25 = .ok (.bipush (-5), 2) := by decide +kernel
theorem dX9_form_27 : decode cX9_form 27 = .ok (.ireturn, 1) := by decide +kernel
theorem dX9_form_28 : decode cX9_form 28 = .ok (.aload_n 0, 1) := by decide +kernel
theorem dX9_form_29 : decode cX9_form 29 = .ok (.getfield 64, 3) := by decide +kernel
theorem dX9_form_32 : decode cX9_form 32 = .ok (.aload_n 0, 1) := by decide +kernel
theorem dX9_form_33 : decode cX9_form 33 = .ok (.getfield 17, 3) := by decide +kernel
theorem dX9_form_36 : decode cX9_form 36 = .ok (.iload_n 1, 1) := by decide +kernel
theorem dX9_form_37 : decode cX9_form 37 = .ok (.aaload, 1) := by decide +kernel
theorem dX9_form_38 : decode cX9_form 38 = .ok (.invokevirtual 288, 3) := by decide +kernel
theorem dX9_form_41 : decode cX9_form 41 = .ok (.aload_n 0, 1) := by decide +kernel
theorem dX9_form_42 : decode cX9_form 42 = .ok (.getfield 64, 3) := by decide +kernel
theorem dX9_form_45 : decode cX9_form 45 = .ok (.getfield 291, 3) := by decide +kernel
theorem dX9_form_48 : decode cX9_form 48 = .ok (.ireturn, 1) := by decide +kernel
theorem yd_X9_form : yX9_form.cls = RX9 ∧ yX9_form.cls ≠ "java/lang/invoke/MethodHandle" ∧ yX9_form.cls ≠ "java/lang/invoke/VarHandle" ∧ (parseMethodDescriptor yX9_form.desc).map (fun d => d.parameters.length) = some 1 := by decide +kernel
abbrev rmX9_form : Room := { frames := 27, cells := 0, slots := 0, locals := 648 }
def fX9_form (o : Nat) (z : CS) (a1 : Int32) : Option (Int32 × CS) :=
  (fX9_findingOfTask o z a1).bind fun q1 =>
  if q1.1 = 0 then
    (aQ 8 (q1.2.2.2.1 1) a1).bind fun v2 =>
    (v2).bind fun ad3 =>
    (dT q1.2 ad3).bind fun t4 =>
    if t4.2.1 ≤ (4 : Int32) then
      (aQ 8 (q1.2.2.2.1 1) a1).bind fun v5 =>
      (v5).bind fun ad6 =>
      (fX2_find o q1.2 ad6).bind fun q7 =>
      some ((q7.1 9), q7)
    else
      some ((-5 : Int32), q1.2)
  else
    some (q1.1, q1.2)
set_option maxHeartbeats 4000000 in
set_option maxRecDepth 100000 in
theorem tX9_form (κ : KK) (l : Launch) (o : Nat) (z : CS) (a1 : Int32) (q : Int32 × CS) (h : fX9_form o z a1 = some q) : MM κ l yX9_form cX9_form 3 (some .int) rmX9_form (CA o) [.ref o, .int a1] (CB κ o z) (some (Value.int q.1)) (CB κ o q.2) := by
  refine MM.of (by decide +kernel) (Nat.le_of_ble_eq_true rfl) ?_
  intro p e s m below meth c C hnm
  unfold fX9_form at h
  refine G_sub (lv' := [(0, .ref o), (1, .int a1)]) [0, 1] rfl ?_
  refine G_aload_n (pc' := 1) C dX9_form_0 0 rfl rfl ?_
  refine G_iload_n (pc' := 2) C dX9_form_1 1 rfl rfl ?_
  replace h := ob h
  obtain ⟨q1, hq1, h⟩ := h
  refine G_cV0 (pc' := 5) C dX9_form_2 (tX9_findingOfTask κ l o z a1 q1 hq1) (wV tw_ml_X9_145 tw_im_X9_findingOfTask tw_se_X9_X9_findingOfTask tw_in_X9 tw_co_X9_findingOfTask) yd_X9_findingOfTask rfl fi_X9 (CB_rd 0 rfl) rfl rfl (by decide) rfl (Nat.le_of_ble_eq_true rfl) rfl rfl ?_
  refine G_istore_n (pc' := 6) C dX9_form_5 [(2, .int q1.1), (0, .ref o), (1, .int a1)] (by decide) rfl rfl ?_
  refine G_iload_n (pc' := 7) C dX9_form_6 0 rfl rfl ?_
  refine G_if_eq (tgt := 12) (pc' := 10) C dX9_form_7 (by decide) rfl (fun hc => ?_) (fun hc => ?_)
  · replace h := z_ip hc h
    refine G_aload_n (pc' := 13) C dX9_form_12 1 rfl rfl ?_
    refine G_get (pc' := 16) (k := 1) C fi_X9 dX9_form_13 tw_fl_X9_17 rfl (by decide) (CB_rd 0 rfl) rfl rfl ?_
    refine G_iload_n (pc' := 17) C dX9_form_16 2 rfl rfl ?_
    replace h := ob h
    obtain ⟨v2, hv2, h⟩ := h
    refine G_aald5V (pc' := 18) C dX9_form_17 (CB_rd 2 rfl) hv2 rfl ?_
    replace h := ob h
    obtain ⟨ad3, had3, h⟩ := h
    subst had3
    replace h := ob h
    obtain ⟨t4, ht4, h⟩ := h
    refine G_get (pc' := 21) (k := 1) C fi_X8 dX9_form_18 tw_fl_X9_152 rfl (by decide) (CB_T ht4) rfl rfl ?_
    refine G_iconst (pc' := 22) (v := (4 : Int32)) C dX9_form_21 (by decide) rfl ?_
    refine G_icmp_le (tgt := 28) (pc' := 25) C dX9_form_22 (by decide) rfl (fun hc => ?_) (fun hc => ?_)
    · replace h := z_ip hc h
      refine G_aload_n (pc' := 29) C dX9_form_28 1 rfl rfl ?_
      refine G_get (pc' := 32) (k := 9) C fi_X9 dX9_form_29 tw_fl_X9_64 rfl (by decide) (CB_rd 0 rfl) rfl rfl ?_
      refine G_aload_n (pc' := 33) C dX9_form_32 1 rfl rfl ?_
      refine G_get (pc' := 36) (k := 1) C fi_X9 dX9_form_33 tw_fl_X9_17 rfl (by decide) (CB_rd 0 rfl) rfl rfl ?_
      refine G_iload_n (pc' := 37) C dX9_form_36 2 rfl rfl ?_
      replace h := ob h
      obtain ⟨v5, hv5, h⟩ := h
      refine G_aald5V (pc' := 38) C dX9_form_37 (CB_rd 2 rfl) hv5 rfl ?_
      replace h := ob h
      obtain ⟨ad6, had6, h⟩ := h
      subst had6
      replace h := ob h
      obtain ⟨q7, hq7, h⟩ := h
      refine G_cV0 (pc' := 41) C dX9_form_38 (tX2_find κ l o q1.2 ad6 q7 hq7) (wV tw_ml_X9_288 tw_im_X2_find tw_se_X2_X2_find tw_in_X2 tw_co_X2_find) yd_X2_find rfl fi_X2 (CB_rd 22 rfl) rfl rfl (by decide) rfl (Nat.le_of_ble_eq_true rfl) rfl rfl ?_
      refine G_aload_n (pc' := 42) C dX9_form_41 1 rfl rfl ?_
      refine G_get (pc' := 45) (k := 9) C fi_X9 dX9_form_42 tw_fl_X9_64 rfl (by decide) (CB_rd 0 rfl) rfl rfl ?_
      refine G_get (pc' := 48) (k := 1) C fi_X2 dX9_form_45 tw_fl_X9_291 rfl (by decide) (CB_rd 22 rfl) rfl rfl ?_
      refine G_widen (k := rmX9_form.cells) (n := rmX9_form.slots) (by decide) (by decide) ?_
      obtain rfl := Option.some.inj h
      exact G_iret C dX9_form_48 (fun _ h => h)
    · replace h := z_in hc h
      refine G_bipush (pc' := 27) (v := (-5 : Int32)) C dX9_form_25 (by decide) rfl ?_
      refine G_widen (k := rmX9_form.cells) (n := rmX9_form.slots) (by decide) (by decide) ?_
      obtain rfl := Option.some.inj h
      exact G_iret C dX9_form_27 (fun _ h => h)
  · replace h := z_in hc h
    refine G_iload_n (pc' := 11) C dX9_form_10 0 rfl rfl ?_
    refine G_widen (k := rmX9_form.cells) (n := rmX9_form.slots) (by decide) (by decide) ?_
    obtain rfl := Option.some.inj h
    exact G_iret C dX9_form_11 (fun _ h => h)
theorem dX9_cube_0 : decode cX9_cube 0 = .ok (.iload_n 1, 1) := by decide +kernel
theorem dX9_cube_1 : decode cX9_cube 1 = .ok (.ifCond .lt 14, 3) := by decide +kernel
theorem dX9_cube_4 : decode cX9_cube 4 = .ok (.iload_n 1, 1) := by decide +kernel
theorem dX9_cube_5 : decode cX9_cube 5 = .ok (.aload_n 0, 1) := by decide +kernel
theorem dX9_cube_6 : decode cX9_cube 6 = .ok (.getfield 64, 3) := by decide +kernel
theorem dX9_cube_9 : decode cX9_cube 9 = .ok (.getfield 291, 3) := by decide +kernel
theorem dX9_cube_12 : decode cX9_cube 12 = .ok (.if_icmp .lt 8, 3) := by decide +kernel
theorem dX9_cube_15 : decode cX9_cube 15 = .ok (.bipush (-2), 2) := by decide +kernel
theorem dX9_cube_17 : decode cX9_cube 17 = .ok (.goto 12, 3) := by decide +kernel
theorem dX9_cube_20 : decode cX9_cube 20 = .ok (.aload_n 0, 1) := by decide +kernel
theorem dX9_cube_21 : decode cX9_cube 21 = .ok (.getfield 64, 3) := by decide +kernel
theorem dX9_cube_24 : decode cX9_cube 24 = .ok (.getfield 294, 3) := by decide +kernel
theorem dX9_cube_27 : decode cX9_cube 27 = .ok (.iload_n 1, 1) := by decide +kernel
theorem dX9_cube_28 : decode cX9_cube 28 = .ok (.iaload, 1) := by decide +kernel
theorem dX9_cube_29 : decode cX9_cube 29 = .ok (.ireturn, 1) := by decide +kernel
theorem yd_X9_cube : yX9_cube.cls = RX9 ∧ yX9_cube.cls ≠ "java/lang/invoke/MethodHandle" ∧ yX9_cube.cls ≠ "java/lang/invoke/VarHandle" ∧ (parseMethodDescriptor yX9_cube.desc).map (fun d => d.parameters.length) = some 1 := by decide +kernel
abbrev rmX9_cube : Room := { frames := 0, cells := 0, slots := 0, locals := 0 }
def fX9_cube_J15 (o : Nat) (z : CS) : Option (Int32) :=
  some (-2 : Int32)
def fX9_cube (o : Nat) (z : CS) (a1 : Int32) : Option (Int32) :=
  if a1 < 0 then
    fX9_cube_J15 o z
  else
    if a1 < (z.1 9) then
      (aI 16 (z.2.1 13) a1).bind fun v1 =>
      some v1
    else
      fX9_cube_J15 o z
set_option maxHeartbeats 4000000 in
set_option maxRecDepth 100000 in
theorem tX9_cube (κ : KK) (l : Launch) (o : Nat) (z : CS) (a1 : Int32) (q : Int32) (h : fX9_cube o z a1 = some q) : MM κ l yX9_cube cX9_cube 2 (some .int) rmX9_cube (CA o) [.ref o, .int a1] (CB κ o z) (some (Value.int q)) (CB κ o z) := by
  refine MM.of (by decide +kernel) (Nat.le_of_ble_eq_true rfl) ?_
  intro p e s m below meth c C hnm
  have J15 : fX9_cube_J15 o z = some q → GC κ p l e s m ([.ref o, .int a1] : List Value).toArray below meth c rmX9_cube 2 o (some (Value.int q)) (CB κ o z) 0 0 z 15 [] [] := by
    intro  h
    unfold fX9_cube_J15 at h
    refine G_bipush (pc' := 17) (v := (-2 : Int32)) C dX9_cube_15 (by decide) rfl ?_
    refine G_goto (tgt := 29) C dX9_cube_17 (by decide) ?_
    obtain rfl := Option.some.inj h
    exact G_iret C dX9_cube_29 (fun _ h => h)
  unfold fX9_cube at h
  refine G_sub (lv' := [(0, .ref o), (1, .int a1)]) [0, 1] rfl ?_
  refine G_iload_n (pc' := 1) C dX9_cube_0 1 rfl rfl ?_
  refine G_if_lt (tgt := 15) (pc' := 4) C dX9_cube_1 (by decide) rfl (fun hc => ?_) (fun hc => ?_)
  · replace h := z_ip hc h
    exact G_sub (lv' := []) [] rfl (J15  h)
  · replace h := z_in hc h
    refine G_iload_n (pc' := 5) C dX9_cube_4 1 rfl rfl ?_
    refine G_aload_n (pc' := 6) C dX9_cube_5 0 rfl rfl ?_
    refine G_get (pc' := 9) (k := 9) C fi_X9 dX9_cube_6 tw_fl_X9_64 rfl (by decide) (CB_rd 0 rfl) rfl rfl ?_
    refine G_get (pc' := 12) (k := 1) C fi_X2 dX9_cube_9 tw_fl_X9_291 rfl (by decide) (CB_rd 22 rfl) rfl rfl ?_
    refine G_icmp_lt (tgt := 20) (pc' := 15) C dX9_cube_12 (by decide) rfl (fun hc => ?_) (fun hc => ?_)
    · replace h := z_ip hc h
      refine G_aload_n (pc' := 21) C dX9_cube_20 0 rfl rfl ?_
      refine G_get (pc' := 24) (k := 9) C fi_X9 dX9_cube_21 tw_fl_X9_64 rfl (by decide) (CB_rd 0 rfl) rfl rfl ?_
      refine G_get (pc' := 27) (k := 0) C fi_X2 dX9_cube_24 tw_fl_X9_294 rfl (by decide) (CB_rd 22 rfl) rfl rfl ?_
      refine G_iload_n (pc' := 28) C dX9_cube_27 1 rfl rfl ?_
      replace h := ob h
      obtain ⟨v1, hv1, h⟩ := h
      refine G_ialdV (pc' := 29) C dX9_cube_28 (CB_rd 23 rfl) hv1 rfl ?_
      obtain rfl := Option.some.inj h
      exact G_iret C dX9_cube_29 (fun _ h => h)
    · replace h := z_in hc h
      exact G_sub (lv' := []) [] rfl (J15  h)
theorem dJ7_fill_53178_0 : decode cJ7_fill_53178 0 = .ok (.iconst 0, 1) := by decide +kernel
theorem dJ7_fill_53178_1 : decode cJ7_fill_53178 1 = .ok (.istore_n 2, 1) := by decide +kernel
theorem dJ7_fill_53178_2 : decode cJ7_fill_53178 2 = .ok (.aload_n 0, 1) := by decide +kernel
theorem dJ7_fill_53178_3 : decode cJ7_fill_53178 3 = .ok (.arraylength, 1) := by decide +kernel
theorem dJ7_fill_53178_4 : decode cJ7_fill_53178 4 = .ok (.istore_n 3, 1) := by decide +kernel
theorem dJ7_fill_53178_5 : decode cJ7_fill_53178 5 = .ok (.iload_n 2, 1) := by decide +kernel
theorem dJ7_fill_53178_6 : decode cJ7_fill_53178 6 = .ok (.iload_n 3, 1) := by decide +kernel
theorem dJ7_fill_53178_7 : decode cJ7_fill_53178 7 = .ok (.if_icmp .ge 13, 3) := by decide +kernel
theorem dJ7_fill_53178_10 : decode cJ7_fill_53178 10 = .ok (.aload_n 0, 1) := by decide +kernel
theorem dJ7_fill_53178_11 : decode cJ7_fill_53178 11 = .ok (.iload_n 2, 1) := by decide +kernel
theorem dJ7_fill_53178_12 : decode cJ7_fill_53178 12 = .ok (.iload_n 1, 1) := by decide +kernel
theorem dJ7_fill_53178_13 : decode cJ7_fill_53178 13 = .ok (.iastore, 1) := by decide +kernel
theorem dJ7_fill_53178_14 : decode cJ7_fill_53178 14 = .ok (.iinc 2 1, 3) := by decide +kernel
theorem dJ7_fill_53178_17 : decode cJ7_fill_53178 17 = .ok (.goto (-12), 3) := by decide +kernel
theorem dJ7_fill_53178_20 : decode cJ7_fill_53178 20 = .ok (.return_, 1) := by decide +kernel
theorem yd_J7_fill_53178 : yJ7_fill_53178.cls ≠ "java/lang/invoke/MethodHandle" ∧ yJ7_fill_53178.cls ≠ "java/lang/invoke/VarHandle" ∧ (parseMethodDescriptor yJ7_fill_53178.desc).map (fun d => d.parameters.length) = some 2 := by decide +kernel
abbrev rmJ7_fill_53178 : Room := { frames := 0, cells := 0, slots := 0, locals := 0 }
def fJ7_fill_53178_L5 (o : Nat) (z : CS) (l1 : Int32) (l3 : Int32) (l2 : Int32) : Option ((Int32 × CS) ⊕ CS) :=
  if l3 ≤ l2 then
    some (.inr z)
  else
    (csA z 16 256 l2 l1).bind fun z1 =>
    some (.inl ((l2 + (1 : Int32)), z1))
def fJ7_fill_53178 (o : Nat) (z : CS) (a2 : Int32) : Option (CS) :=
  (lpN (fun u => fJ7_fill_53178_L5 o u.2 a2 (nI 256) u.1) bigN ((0 : Int32), z)).bind fun e2 =>
  some e2
set_option maxHeartbeats 4000000 in
set_option maxRecDepth 100000 in
theorem tJ7_fill_53178_L5 {κ : KK} {p : Program} {l : Launch} {e : Env} {s : State} {m : MethodId} {args : Array Value} {below : List Frame} {meth : Method} {c : Code} (C : Cx κ p s m args meth c cJ7_fill_53178 4 RJ7 none) {o : Nat} {v : Option Value} {B' : Heap → Prop} {z : CS} {l1 : Int32} {l3 : Int32} {l2 : Int32} {y : (Int32 × CS) ⊕ CS} (h : fJ7_fill_53178_L5 o z l1 l3 l2 = some y) (kc : ∀ u, y = .inl u → GC κ p l e s m args below meth c rmJ7_fill_53178 4 o v B' 0 0 u.2 5 [(0, .ref (o + 27)), (1, .int l1), (2, .int u.1), (3, .int l3)] []) (kx : ∀ w, y = .inr w → GC κ p l e s m args below meth c rmJ7_fill_53178 4 o v B' 0 0 w 20 [] []) : GC κ p l e s m args below meth c rmJ7_fill_53178 4 o v B' 0 0 z 5 [(0, .ref (o + 27)), (1, .int l1), (2, .int l2), (3, .int l3)] [] := by
  unfold fJ7_fill_53178_L5 at h
  refine G_iload_n (pc' := 6) C dJ7_fill_53178_5 2 rfl rfl ?_
  refine G_iload_n (pc' := 7) C dJ7_fill_53178_6 3 rfl rfl ?_
  refine G_icmp_ge (tgt := 20) (pc' := 10) C dJ7_fill_53178_7 (by decide) rfl (fun hc => ?_) (fun hc => ?_)
  · replace h := z_ip hc h
    exact G_sub (lv' := []) [] rfl (kx _ (Option.some.inj h).symm)
  · replace h := z_in hc h
    refine G_aload_n (pc' := 11) C dJ7_fill_53178_10 0 rfl rfl ?_
    refine G_iload_n (pc' := 12) C dJ7_fill_53178_11 2 rfl rfl ?_
    refine G_iload_n (pc' := 13) C dJ7_fill_53178_12 1 rfl rfl ?_
    replace h := ob h
    obtain ⟨z1, hz1, h⟩ := h
    refine C_s_27 (pc' := 14) C dJ7_fill_53178_13 hz1 rfl ?_
    refine G_iinc (pc' := 17) C dJ7_fill_53178_14 2 rfl rfl [(2, .int (l2 + (1 : Int32))), (0, .ref (o + 27)), (1, .int l1), (3, .int l3)] (by decide) rfl rfl ?_
    refine G_goto (tgt := 5) C dJ7_fill_53178_17 (by decide) ?_
    exact G_sub (lv' := [(0, .ref (o + 27)), (1, .int l1), (2, .int (l2 + (1 : Int32))), (3, .int l3)]) [1, 2, 0, 3] rfl (kc ((l2 + (1 : Int32)), z1) (Option.some.inj h).symm)
set_option maxHeartbeats 4000000 in
set_option maxRecDepth 100000 in
theorem tJ7_fill_53178 (κ : KK) (l : Launch) (o : Nat) (z : CS) (a2 : Int32) (q : CS) (h : fJ7_fill_53178 o z a2 = some q) : MM κ l yJ7_fill_53178 cJ7_fill_53178 4 none rmJ7_fill_53178 (CA o) [.ref (o + 27), .int a2] (CB κ o z) none (CB κ o q) := by
  refine MM.of (by decide +kernel) (Nat.le_of_ble_eq_true rfl) ?_
  intro p e s m below meth c C hnm
  unfold fJ7_fill_53178 at h
  refine G_sub (lv' := [(0, .ref (o + 27)), (1, .int a2)]) [0, 1] rfl ?_
  refine G_iconst (pc' := 1) (v := (0 : Int32)) C dJ7_fill_53178_0 (by decide) rfl ?_
  refine G_istore_n (pc' := 2) C dJ7_fill_53178_1 [(2, .int (0 : Int32)), (0, .ref (o + 27)), (1, .int a2)] (by decide) rfl rfl ?_
  refine G_aload_n (pc' := 3) C dJ7_fill_53178_2 1 rfl rfl ?_
  refine G_alen (pc' := 4) 0 C dJ7_fill_53178_3 rfl (CB_rd 27 rfl) rfl ?_
  refine G_istore_n (pc' := 5) C dJ7_fill_53178_4 [(3, .int (nI 256)), (2, .int (0 : Int32)), (0, .ref (o + 27)), (1, .int a2)] (by decide) rfl rfl ?_
  replace h := ob h
  obtain ⟨e2, hle2, h⟩ := h
  refine G_sub (lv' := [(0, .ref (o + 27)), (1, .int a2), (2, .int (0 : Int32)), (3, .int (nI 256))]) [2, 3, 1, 0] rfl ?_
  refine lpN_ind (body := fun u => fJ7_fill_53178_L5 o u.2 a2 (nI 256) u.1) (P := fun u => GC κ p l e s m ([.ref (o + 27), .int a2] : List Value).toArray below meth c rmJ7_fill_53178 4 o none (CB κ o q) 0 0 u.2 5 [(0, .ref (o + 27)), (1, .int a2), (2, .int u.1), (3, .int (nI 256))] []) (X := fun w => GC κ p l e s m ([.ref (o + 27), .int a2] : List Value).toArray below meth c rmJ7_fill_53178 4 o none (CB κ o q) 0 0 w 20 [] []) (fun u y hb kc kx => tJ7_fill_53178_L5 C hb kc kx) _ _ _ hle2 ?_
  refine G_widen (k := rmJ7_fill_53178.cells) (n := rmJ7_fill_53178.slots) (by decide) (by decide) ?_
  obtain rfl := Option.some.inj h
  exact G_vret C dJ7_fill_53178_20 (fun _ h => h)
