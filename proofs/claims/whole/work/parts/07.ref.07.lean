theorem dX10_settles_0 : decode cX10_settles 0 = .ok (.iload_n 2, 1) := by decide +kernel
theorem dX10_settles_1 : decode cX10_settles 1 = .ok (.ifCond .ne 12, 3) := by decide +kernel
theorem dX10_settles_4 : decode cX10_settles 4 = .ok (.aload_n 0, 1) := by decide +kernel
theorem dX10_settles_5 : decode cX10_settles 5 = .ok (.iload_n 1, 1) := by decide +kernel
theorem dX10_settles_6 : decode cX10_settles 6 = .ok (.iload_n 3, 1) := by decide +kernel
theorem dX10_settles_7 : decode cX10_settles 7 = .ok (.invokevirtual 205, 3) := by decide +kernel
theorem dX10_settles_10 : decode cX10_settles 10 = .ok (.goto 23, 3) := by decide +kernel
theorem dX10_settles_13 : decode cX10_settles 13 = .ok (.iload_n 2, 1) := by decide +kernel
theorem dX10_settles_14 : decode cX10_settles 14 = .ok (.iconst 1, 1) := by decide +kernel
theorem dX10_settles_15 : decode cX10_settles 15 = .ok (.if_icmp .ne 12, 3) := by decide +kernel
theorem dX10_settles_18 : decode cX10_settles 18 = .ok (.aload_n 0, 1) := by decide +kernel
theorem dX10_settles_19 : decode cX10_settles 19 = .ok (.iload_n 1, 1) := by decide +kernel
theorem dX10_settles_20 : decode cX10_settles 20 = .ok (.iload_n 3, 1) := by decide +kernel
theorem dX10_settles_21 : decode cX10_settles 21 = .ok (.invokevirtual 208, 3) := by decide +kernel
theorem dX10_settles_24 : decode cX10_settles 24 = .ok (.goto 9, 3) := by decide +kernel
theorem dX10_settles_27 : decode cX10_settles 27 = .ok (.aload_n 0, 1) := by decide +kernel
theorem dX10_settles_28 : decode cX10_settles 28 = .ok (.iload_n 1, 1) := by decide +kernel
theorem dX10_settles_29 : decode cX10_settles 29 = .ok (.iload_n 3, 1) := by decide +kernel
theorem dX10_settles_30 : decode cX10_settles 30 = .ok (.invokevirtual 210, 3) := by decide +kernel
theorem dX10_settles_33 : decode cX10_settles 33 = .ok (.ireturn, 1) := by decide +kernel
abbrev rmX10_settles : Room := { frames := 2, cells := 0, slots := 0, locals := 49 }
theorem yd_X10_settles : yX10_settles.cls = RX10 ∧ yX10_settles.cls ≠ "java/lang/invoke/MethodHandle" ∧ yX10_settles.cls ≠ "java/lang/invoke/VarHandle" ∧ (parseMethodDescriptor yX10_settles.desc).map (fun d => d.parameters.length) = some 3 := by decide +kernel
def fX10_settles (r : RS) (a1 : Int32) (a2 : Int32) (a3 : Int32) : Option (Int32 × RS) :=
  if a2 = 0 then
    (fX10_sensitive r a1 a3).bind fun q3 =>
    some (q3, r)
  else
    if a2 = (1 : Int32) then
      (fX10_blocks r a1 a3).bind fun q2 =>
      some (q2.1, q2.2)
    else
      (fX10_proof r a1 a3).bind fun q1 =>
      some (q1, r)
set_option maxHeartbeats 4000000 in
set_option maxRecDepth 100000 in
theorem tX10_settles (κ : KK) (l : Launch) (o : Nat) (r : RS) (a1 : Int32) (a2 : Int32) (a3 : Int32) (q : Int32 × RS) (h : fX10_settles r a1 a2 a3 = some q) : MM κ l yX10_settles cX10_settles 4 (some .int) rmX10_settles (RA o) [.ref o, .int a1, .int a2, .int a3] (RB κ o r) (some (Value.int q.1)) (RB κ o q.2) := by
  refine MM.of (by decide +kernel) (Nat.le_of_ble_eq_true rfl) ?_
  intro p e s m below meth c C hnm
  unfold fX10_settles at h
  refine G_sub (lv' := [(0, .ref o), (1, .int a1), (2, .int a2), (3, .int a3)]) [0, 1, 2, 3] rfl ?_
  refine G_iload_n (pc' := 1) C dX10_settles_0 2 rfl rfl ?_
  refine G_if_ne (tgt := 13) (pc' := 4) C dX10_settles_1 (by decide) rfl (fun hc => ?_) (fun hc => ?_)
  · replace h := z_in hc h
    refine G_iload_n (pc' := 14) C dX10_settles_13 2 rfl rfl ?_
    refine G_iconst (pc' := 15) (v := (1 : Int32)) C dX10_settles_14 (by decide) rfl ?_
    refine G_icmp_ne (tgt := 27) (pc' := 18) C dX10_settles_15 (by decide) rfl (fun hc => ?_) (fun hc => ?_)
    · replace h := z_in hc h
      refine G_aload_n (pc' := 28) C dX10_settles_27 0 rfl rfl ?_
      refine G_iload_n (pc' := 29) C dX10_settles_28 1 rfl rfl ?_
      refine G_iload_n (pc' := 30) C dX10_settles_29 3 rfl rfl ?_
      obtain ⟨q1, hq1, h⟩ := ob h
      refine G_cV0 (pc' := 33) C dX10_settles_30 (tX10_proof κ l o r a1 a3 q1 hq1) (wV tw_ml_X10_210 tw_im_X10_proof tw_se_X10_X10_proof tw_in_X10 tw_co_X10_proof) yd_X10_proof rfl fi_X10 (RB_rd 0 rfl) rfl rfl (by decide) rfl (Nat.le_of_ble_eq_true rfl) rfl rfl ?_
      obtain rfl := Option.some.inj h
      exact G_iret C dX10_settles_33 (fun _ h => h)
    · replace h := z_ip hc h
      refine G_aload_n (pc' := 19) C dX10_settles_18 0 rfl rfl ?_
      refine G_iload_n (pc' := 20) C dX10_settles_19 1 rfl rfl ?_
      refine G_iload_n (pc' := 21) C dX10_settles_20 3 rfl rfl ?_
      obtain ⟨q2, hq2, h⟩ := ob h
      refine G_cV0 (pc' := 24) C dX10_settles_21 (tX10_blocks κ l o r a1 a3 q2 hq2) (wV tw_ml_X10_208 tw_im_X10_blocks tw_se_X10_X10_blocks tw_in_X10 tw_co_X10_blocks) yd_X10_blocks rfl fi_X10 (RB_rd 0 rfl) rfl rfl (by decide) rfl (Nat.le_of_ble_eq_true rfl) rfl rfl ?_
      refine G_goto (tgt := 33) C dX10_settles_24 (by decide) ?_
      obtain rfl := Option.some.inj h
      exact G_iret C dX10_settles_33 (fun _ h => h)
  · replace h := z_ip hc h
    refine G_aload_n (pc' := 5) C dX10_settles_4 0 rfl rfl ?_
    refine G_iload_n (pc' := 6) C dX10_settles_5 1 rfl rfl ?_
    refine G_iload_n (pc' := 7) C dX10_settles_6 3 rfl rfl ?_
    obtain ⟨q3, hq3, h⟩ := ob h
    refine G_cV0 (pc' := 10) C dX10_settles_7 (tX10_sensitive κ l o r a1 a3 q3 hq3) (wV tw_ml_X10_205 tw_im_X10_sensitive tw_se_X10_X10_sensitive tw_in_X10 tw_co_X10_sensitive) yd_X10_sensitive rfl fi_X10 (RB_rd 0 rfl) rfl rfl (by decide) rfl (Nat.le_of_ble_eq_true rfl) rfl rfl ?_
    refine G_goto (tgt := 33) C dX10_settles_10 (by decide) ?_
    obtain rfl := Option.some.inj h
    exact G_iret C dX10_settles_33 (fun _ h => h)
theorem dX10_at_0 : decode cX10_at 0 = .ok (.iload_n 1, 1) := by decide +kernel
theorem dX10_at_1 : decode cX10_at 1 = .ok (.invokestatic 115, 3) := by decide +kernel
theorem dX10_at_4 : decode cX10_at 4 = .ok (.ifCond .eq 12, 3) := by decide +kernel
theorem dX10_at_7 : decode cX10_at 7 = .ok (.iload_n 2, 1) := by decide +kernel
theorem dX10_at_8 : decode cX10_at 8 = .ok (.ifCond .lt 8, 3) := by decide +kernel
theorem dX10_at_11 : decode cX10_at 11 = .ok (.iload_n 2, 1) := by decide +kernel
theorem dX10_at_12 : decode cX10_at 12 = .ok (.iconst 2, 1) := by decide +kernel
theorem dX10_at_13 : decode cX10_at 13 = .ok (.if_icmp .le 6, 3) := by decide +kernel
theorem dX10_at_16 : decode cX10_at 16 = .ok (.bipush (-2), 2) := by decide +kernel
theorem dX10_at_18 : decode cX10_at 18 = .ok (.ireturn, 1) := by decide +kernel
theorem dX10_at_19 : decode cX10_at 19 = .ok (.aload_n 0, 1) := by decide +kernel
theorem dX10_at_20 : decode cX10_at 20 = .ok (.iload_n 1, 1) := by decide +kernel
theorem dX10_at_21 : decode cX10_at 21 = .ok (.invokevirtual 213, 3) := by decide +kernel
theorem dX10_at_24 : decode cX10_at 24 = .ok (.istore 4, 2) := by decide +kernel
theorem dX10_at_26 : decode cX10_at 26 = .ok (.iload 4, 2) := by decide +kernel
theorem dX10_at_28 : decode cX10_at 28 = .ok (.ifCond .eq 10, 3) := by decide +kernel
theorem dX10_at_31 : decode cX10_at 31 = .ok (.aload_n 0, 1) := by decide +kernel
theorem dX10_at_32 : decode cX10_at 32 = .ok (.iload 4, 2) := by decide +kernel
theorem dX10_at_34 : decode cX10_at 34 = .ok (.invokevirtual 136, 3) := by decide +kernel
theorem dX10_at_37 : decode cX10_at 37 = .ok (.ireturn, 1) := by decide +kernel
theorem dX10_at_38 : decode cX10_at 38 = .ok (.iload_n 3, 1) := by decide +kernel
theorem dX10_at_39 : decode cX10_at 39 = .ok (.ifCond .lt 12, 3) := by decide +kernel
theorem dX10_at_42 : decode cX10_at 42 = .ok (.iload_n 3, 1) := by decide +kernel
theorem dX10_at_43 : decode cX10_at 43 = .ok (.aload_n 0, 1) := by decide +kernel
theorem dX10_at_44 : decode cX10_at 44 = .ok (.iload_n 1, 1) := by decide +kernel
theorem dX10_at_45 : decode cX10_at 45 = .ok (.invokevirtual 119, 3) := by decide +kernel
theorem dX10_at_48 : decode cX10_at 48 = .ok (.if_icmp .lt 10, 3) := by decide +kernel
theorem dX10_at_51 : decode cX10_at 51 = .ok (.aload_n 0, 1) := by decide +kernel
theorem dX10_at_52 : decode cX10_at 52 = .ok (.bipush (-11), 2) := by decide +kernel
theorem dX10_at_54 : decode cX10_at 54 = .ok (.invokevirtual 136, 3) := by decide +kernel
theorem dX10_at_57 : decode cX10_at 57 = .ok (.ireturn, 1) := by decide +kernel
theorem dX10_at_58 : decode cX10_at 58 = .ok (.aload_n 0, 1) := by decide +kernel
theorem dX10_at_59 : decode cX10_at 59 = .ok (.iload_n 1, 1) := by decide +kernel
theorem dX10_at_60 : decode cX10_at 60 = .ok (.invokevirtual 186, 3) := by decide +kernel
theorem dX10_at_63 : decode cX10_at 63 = .ok (.aload_n 0, 1) := by decide +kernel
theorem dX10_at_64 : decode cX10_at 64 = .ok (.iload_n 1, 1) := by decide +kernel
theorem dX10_at_65 : decode cX10_at 65 = .ok (.iload_n 2, 1) := by decide +kernel
theorem dX10_at_66 : decode cX10_at 66 = .ok (.iload_n 3, 1) := by decide +kernel
theorem dX10_at_67 : decode cX10_at 67 = .ok (.invokevirtual 216, 3) := by decide +kernel
theorem dX10_at_70 : decode cX10_at 70 = .ok (.ireturn, 1) := by decide +kernel
abbrev rmX10_at : Room := { frames := 3, cells := 0, slots := 0, locals := 72 }
theorem yd_X10_at : yX10_at.cls = RX10 ∧ yX10_at.cls ≠ "java/lang/invoke/MethodHandle" ∧ yX10_at.cls ≠ "java/lang/invoke/VarHandle" ∧ (parseMethodDescriptor yX10_at.desc).map (fun d => d.parameters.length) = some 3 := by decide +kernel
def fX10_at_J51 (r : RS) : Option (Int32 × RS) :=
  (fX10_meet r (-11 : Int32)).bind fun q3 =>
  some (q3.1, q3.2)
def fX10_at_J16 (r : RS) : Option (Int32 × RS) :=
  some ((-2 : Int32), r)
def fX10_at (r : RS) (a1 : Int32) (a2 : Int32) (a3 : Int32) : Option (Int32 × RS) :=
  (fX10_isPlace a1).bind fun q1 =>
  if q1 = 0 then
    fX10_at_J16 r
  else
    if a2 < 0 then
      fX10_at_J16 r
    else
      if a2 ≤ (2 : Int32) then
        (fX10_askTold r a1).bind fun q2 =>
        if q2 = 0 then
          if a3 < 0 then
            fX10_at_J51 r
          else
            (fX10_inputs r a1).bind fun q4 =>
            if a3 < q4 then
              (fX10_tellCubes r a1).bind fun q5 =>
              (fX10_settles q5 a1 a2 a3).bind fun q6 =>
              some (q6.1, q6.2)
            else
              fX10_at_J51 r
        else
          (fX10_meet r q2).bind fun q7 =>
          some (q7.1, q7.2)
      else
        fX10_at_J16 r
set_option maxHeartbeats 4000000 in
set_option maxRecDepth 100000 in
theorem tX10_at (κ : KK) (l : Launch) (o : Nat) (r : RS) (a1 : Int32) (a2 : Int32) (a3 : Int32) (q : Int32 × RS) (h : fX10_at r a1 a2 a3 = some q) : MM κ l yX10_at cX10_at 5 (some .int) rmX10_at (RA o) [.ref o, .int a1, .int a2, .int a3] (RB κ o r) (some (Value.int q.1)) (RB κ o q.2) := by
  refine MM.of (by decide +kernel) (Nat.le_of_ble_eq_true rfl) ?_
  intro p e s m below meth c C hnm
  have J51 : ∀ (r : RS), fX10_at_J51 r = some q → GR κ p l e s m ([.ref o, .int a1, .int a2, .int a3] : List Value).toArray below meth c rmX10_at 5 o (some (Value.int q.1)) (RB κ o q.2) r 51 [(0, .ref o)] [] := by
    intro r h
    unfold fX10_at_J51 at h
    refine G_aload_n (pc' := 52) C dX10_at_51 0 rfl rfl ?_
    refine G_bipush (pc' := 54) (v := (-11 : Int32)) C dX10_at_52 (by decide) rfl ?_
    obtain ⟨q3, hq3, h⟩ := ob h
    refine G_cV0 (pc' := 57) C dX10_at_54 (tX10_meet κ l o r (-11 : Int32) q3 hq3) (wV tw_ml_X10_136 tw_im_X10_meet tw_se_X10_X10_meet tw_in_X10 tw_co_X10_meet) yd_X10_meet rfl fi_X10 (RB_rd 0 rfl) rfl rfl (by decide) rfl (Nat.le_of_ble_eq_true rfl) rfl rfl ?_
    obtain rfl := Option.some.inj h
    exact G_iret C dX10_at_57 (fun _ h => h)
  have J16 : ∀ (r : RS), fX10_at_J16 r = some q → GR κ p l e s m ([.ref o, .int a1, .int a2, .int a3] : List Value).toArray below meth c rmX10_at 5 o (some (Value.int q.1)) (RB κ o q.2) r 16 [] [] := by
    intro r h
    unfold fX10_at_J16 at h
    refine G_bipush (pc' := 18) (v := (-2 : Int32)) C dX10_at_16 (by decide) rfl ?_
    obtain rfl := Option.some.inj h
    exact G_iret C dX10_at_18 (fun _ h => h)
  unfold fX10_at at h
  refine G_sub (lv' := [(0, .ref o), (1, .int a1), (2, .int a2), (3, .int a3)]) [0, 1, 2, 3] rfl ?_
  refine G_iload_n (pc' := 1) C dX10_at_0 1 rfl rfl ?_
  obtain ⟨q1, hq1, h⟩ := ob h
  refine G_cS0 (pc' := 4) C dX10_at_1 (tX10_isPlace κ l (RA o) (RB κ o r) a1 q1 hq1) (wS tw_ml_X10_115 tw_st_X10_isPlace tw_co_X10_isPlace tw_in_X10) yd_X10_isPlace rfl rfl rfl (by decide) rfl (Nat.le_of_ble_eq_true rfl) rfl rfl ?_
  refine G_if_eq (tgt := 16) (pc' := 7) C dX10_at_4 (by decide) rfl (fun hc => ?_) (fun hc => ?_)
  · replace h := z_ip hc h
    exact G_sub [] rfl (J16 r h)
  · replace h := z_in hc h
    refine G_iload_n (pc' := 8) C dX10_at_7 2 rfl rfl ?_
    refine G_if_lt (tgt := 16) (pc' := 11) C dX10_at_8 (by decide) rfl (fun hc => ?_) (fun hc => ?_)
    · replace h := z_ip hc h
      exact G_sub [] rfl (J16 r h)
    · replace h := z_in hc h
      refine G_iload_n (pc' := 12) C dX10_at_11 2 rfl rfl ?_
      refine G_iconst (pc' := 13) (v := (2 : Int32)) C dX10_at_12 (by decide) rfl ?_
      refine G_icmp_le (tgt := 19) (pc' := 16) C dX10_at_13 (by decide) rfl (fun hc => ?_) (fun hc => ?_)
      · replace h := z_ip hc h
        refine G_aload_n (pc' := 20) C dX10_at_19 0 rfl rfl ?_
        refine G_iload_n (pc' := 21) C dX10_at_20 1 rfl rfl ?_
        obtain ⟨q2, hq2, h⟩ := ob h
        refine G_cV0 (pc' := 24) C dX10_at_21 (tX10_askTold κ l o r a1 q2 hq2) (wV tw_ml_X10_213 tw_im_X10_askTold tw_se_X10_X10_askTold tw_in_X10 tw_co_X10_askTold) yd_X10_askTold rfl fi_X10 (RB_rd 0 rfl) rfl rfl (by decide) rfl (Nat.le_of_ble_eq_true rfl) rfl rfl ?_
        refine G_istore (pc' := 26) C dX10_at_24 [(4, .int q2), (0, .ref o), (1, .int a1), (2, .int a2), (3, .int a3)] (by decide) rfl rfl ?_
        refine G_iload (pc' := 28) C dX10_at_26 0 rfl rfl ?_
        refine G_if_eq (tgt := 38) (pc' := 31) C dX10_at_28 (by decide) rfl (fun hc => ?_) (fun hc => ?_)
        · replace h := z_ip hc h
          refine G_iload_n (pc' := 39) C dX10_at_38 4 rfl rfl ?_
          refine G_if_lt (tgt := 51) (pc' := 42) C dX10_at_39 (by decide) rfl (fun hc => ?_) (fun hc => ?_)
          · replace h := z_ip hc h
            exact G_sub [1] rfl (J51 r h)
          · replace h := z_in hc h
            refine G_iload_n (pc' := 43) C dX10_at_42 4 rfl rfl ?_
            refine G_aload_n (pc' := 44) C dX10_at_43 1 rfl rfl ?_
            refine G_iload_n (pc' := 45) C dX10_at_44 2 rfl rfl ?_
            obtain ⟨q4, hq4, h⟩ := ob h
            refine G_cV0 (pc' := 48) C dX10_at_45 (tX10_inputs κ l o r a1 q4 hq4) (wV tw_ml_X10_119 tw_im_X10_inputs tw_se_X10_X10_inputs tw_in_X10 tw_co_X10_inputs) yd_X10_inputs rfl fi_X10 (RB_rd 0 rfl) rfl rfl (by decide) rfl (Nat.le_of_ble_eq_true rfl) rfl rfl ?_
            refine G_icmp_lt (tgt := 58) (pc' := 51) C dX10_at_48 (by decide) rfl (fun hc => ?_) (fun hc => ?_)
            · replace h := z_ip hc h
              refine G_aload_n (pc' := 59) C dX10_at_58 1 rfl rfl ?_
              refine G_iload_n (pc' := 60) C dX10_at_59 2 rfl rfl ?_
              obtain ⟨q5, hq5, h⟩ := ob h
              refine G_cV0 (pc' := 63) C dX10_at_60 (tX10_tellCubes κ l o r a1 q5 hq5) (wV tw_ml_X10_186 tw_im_X10_tellCubes tw_se_X10_X10_tellCubes tw_in_X10 tw_co_X10_tellCubes) yd_X10_tellCubes rfl fi_X10 (RB_rd 0 rfl) rfl rfl (by decide) rfl (Nat.le_of_ble_eq_true rfl) rfl rfl ?_
              refine G_aload_n (pc' := 64) C dX10_at_63 1 rfl rfl ?_
              refine G_iload_n (pc' := 65) C dX10_at_64 2 rfl rfl ?_
              refine G_iload_n (pc' := 66) C dX10_at_65 3 rfl rfl ?_
              refine G_iload_n (pc' := 67) C dX10_at_66 4 rfl rfl ?_
              obtain ⟨q6, hq6, h⟩ := ob h
              refine G_cV0 (pc' := 70) C dX10_at_67 (tX10_settles κ l o q5 a1 a2 a3 q6 hq6) (wV tw_ml_X10_216 tw_im_X10_settles tw_se_X10_X10_settles tw_in_X10 tw_co_X10_settles) yd_X10_settles rfl fi_X10 (RB_rd 0 rfl) rfl rfl (by decide) rfl (Nat.le_of_ble_eq_true rfl) rfl rfl ?_
              obtain rfl := Option.some.inj h
              exact G_iret C dX10_at_70 (fun _ h => h)
            · replace h := z_in hc h
              exact G_sub [1] rfl (J51 r h)
        · replace h := z_in hc h
          refine G_aload_n (pc' := 32) C dX10_at_31 1 rfl rfl ?_
          refine G_iload (pc' := 34) C dX10_at_32 0 rfl rfl ?_
          obtain ⟨q7, hq7, h⟩ := ob h
          refine G_cV0 (pc' := 37) C dX10_at_34 (tX10_meet κ l o r q2 q7 hq7) (wV tw_ml_X10_136 tw_im_X10_meet tw_se_X10_X10_meet tw_in_X10 tw_co_X10_meet) yd_X10_meet rfl fi_X10 (RB_rd 0 rfl) rfl rfl (by decide) rfl (Nat.le_of_ble_eq_true rfl) rfl rfl ?_
          obtain rfl := Option.some.inj h
          exact G_iret C dX10_at_37 (fun _ h => h)
      · replace h := z_in hc h
        exact G_sub [] rfl (J16 r h)
theorem dX10_most_0 : decode cX10_most 0 = .ok (.aload_n 0, 1) := by decide +kernel
theorem dX10_most_1 : decode cX10_most 1 = .ok (.iconst (-1), 1) := by decide +kernel
theorem dX10_most_2 : decode cX10_most 2 = .ok (.putfield 219, 3) := by decide +kernel
theorem dX10_most_5 : decode cX10_most 5 = .ok (.iload_n 1, 1) := by decide +kernel
theorem dX10_most_6 : decode cX10_most 6 = .ok (.invokestatic 115, 3) := by decide +kernel
theorem dX10_most_9 : decode cX10_most 9 = .ok (.ifCond .eq 21, 3) := by decide +kernel
theorem dX10_most_12 : decode cX10_most 12 = .ok (.iload_n 2, 1) := by decide +kernel
theorem dX10_most_13 : decode cX10_most 13 = .ok (.ifCond .lt 17, 3) := by decide +kernel
theorem dX10_most_16 : decode cX10_most 16 = .ok (.iload_n 2, 1) := by decide +kernel
theorem dX10_most_17 : decode cX10_most 17 = .ok (.iconst 2, 1) := by decide +kernel
theorem dX10_most_18 : decode cX10_most 18 = .ok (.if_icmp .gt 12, 3) := by decide +kernel
theorem dX10_most_21 : decode cX10_most 21 = .ok (.iload_n 3, 1) := by decide +kernel
theorem dX10_most_22 : decode cX10_most 22 = .ok (.ifCond .lt 8, 3) := by decide +kernel
theorem dX10_most_25 : decode cX10_most 25 = .ok (.iload_n 3, 1) := by decide +kernel
theorem dX10_most_26 : decode cX10_most 26 = .ok (.iconst 2, 1) := by decide +kernel
theorem dX10_most_27 : decode cX10_most 27 = .ok (.if_icmp .le 6, 3) := by decide +kernel
theorem dX10_most_30 : decode cX10_most 30 = .ok (.bipush (-2), 2) := by decide +kernel
theorem dX10_most_32 : decode cX10_most 32 = .ok (.ireturn, 1) := by decide +kernel
theorem dX10_most_33 : decode cX10_most 33 = .ok (.aload_n 0, 1) := by decide +kernel
theorem dX10_most_34 : decode cX10_most 34 = .ok (.iload_n 1, 1) := by decide +kernel
theorem dX10_most_35 : decode cX10_most 35 = .ok (.invokevirtual 213, 3) := by decide +kernel
theorem dX10_most_38 : decode cX10_most 38 = .ok (.istore 4, 2) := by decide +kernel
theorem dX10_most_40 : decode cX10_most 40 = .ok (.iload 4, 2) := by decide +kernel
theorem dX10_most_42 : decode cX10_most 42 = .ok (.ifCond .eq 10, 3) := by decide +kernel
theorem dX10_most_45 : decode cX10_most 45 = .ok (.aload_n 0, 1) := by decide +kernel
theorem dX10_most_46 : decode cX10_most 46 = .ok (.iload 4, 2) := by decide +kernel
theorem dX10_most_48 : decode cX10_most 48 = .ok (.invokevirtual 136, 3) := by decide +kernel
theorem dX10_most_51 : decode cX10_most 51 = .ok (.ireturn, 1) := by decide +kernel
theorem dX10_most_52 : decode cX10_most 52 = .ok (.aload_n 0, 1) := by decide +kernel
theorem dX10_most_53 : decode cX10_most 53 = .ok (.iload_n 1, 1) := by decide +kernel
theorem dX10_most_54 : decode cX10_most 54 = .ok (.invokevirtual 186, 3) := by decide +kernel
theorem dX10_most_57 : decode cX10_most 57 = .ok (.iconst (-1), 1) := by decide +kernel
theorem dX10_most_58 : decode cX10_most 58 = .ok (.istore 5, 2) := by decide +kernel
theorem dX10_most_60 : decode cX10_most 60 = .ok (.iconst 0, 1) := by decide +kernel
theorem dX10_most_61 : decode cX10_most 61 = .ok (.istore 6, 2) := by decide +kernel
theorem dX10_most_63 : decode cX10_most 63 = .ok (.iload 6, 2) := by decide +kernel
theorem dX10_most_65 : decode cX10_most 65 = .ok (.aload_n 0, 1) := by decide +kernel
theorem dX10_most_66 : decode cX10_most 66 = .ok (.iload_n 1, 1) := by decide +kernel
theorem dX10_most_67 : decode cX10_most 67 = .ok (.invokevirtual 119, 3) := by decide +kernel
theorem dX10_most_70 : decode cX10_most 70 = .ok (.if_icmp .ge 71, 3) := by decide +kernel
theorem dX10_most_73 : decode cX10_most 73 = .ok (.iload_n 3, 1) := by decide +kernel
theorem dX10_most_74 : decode cX10_most 74 = .ok (.iconst 2, 1) := by decide +kernel
theorem dX10_most_75 : decode cX10_most 75 = .ok (.if_icmp .eq 14, 3) := by decide +kernel
theorem dX10_most_78 : decode cX10_most 78 = .ok (.aload_n 0, 1) := by decide +kernel
theorem dX10_most_79 : decode cX10_most 79 = .ok (.iload_n 1, 1) := by decide +kernel
theorem dX10_most_80 : decode cX10_most 80 = .ok (.iload 6, 2) := by decide +kernel
theorem dX10_most_82 : decode cX10_most 82 = .ok (.invokevirtual 123, 3) := by decide +kernel
theorem dX10_most_85 : decode cX10_most 85 = .ok (.iload_n 3, 1) := by decide +kernel
theorem dX10_most_86 : decode cX10_most 86 = .ok (.if_icmp .ne 49, 3) := by decide +kernel
theorem dX10_most_89 : decode cX10_most 89 = .ok (.aload_n 0, 1) := by decide +kernel
theorem dX10_most_90 : decode cX10_most 90 = .ok (.iload_n 1, 1) := by decide +kernel
theorem dX10_most_91 : decode cX10_most 91 = .ok (.iload_n 2, 1) := by decide +kernel
theorem dX10_most_92 : decode cX10_most 92 = .ok (.iload 6, 2) := by decide +kernel
theorem dX10_most_94 : decode cX10_most 94 = .ok (.invokevirtual 216, 3) := by decide +kernel
theorem dX10_most_97 : decode cX10_most 97 = .ok (.istore 7, 2) := by decide +kernel
theorem dX10_most_99 : decode cX10_most 99 = .ok (.aload_n 0, 1) := by decide +kernel
theorem dX10_most_100 : decode cX10_most 100 = .ok (.iload 7, 2) := by decide +kernel
theorem dX10_most_102 : decode cX10_most 102 = .ok (.iload 5, 2) := by decide +kernel
theorem dX10_most_104 : decode cX10_most 104 = .ok (.if_icmp .le 8, 3) := by decide +kernel
theorem dX10_most_107 : decode cX10_most 107 = .ok (.iload 6, 2) := by decide +kernel
theorem dX10_most_109 : decode cX10_most 109 = .ok (.goto 7, 3) := by decide +kernel
theorem dX10_most_112 : decode cX10_most 112 = .ok (.aload_n 0, 1) := by decide +kernel
theorem dX10_most_113 : decode cX10_most 113 = .ok (.getfield 219, 3) := by decide +kernel
theorem dX10_most_116 : decode cX10_most 116 = .ok (.putfield 219, 3) := by decide +kernel
theorem dX10_most_119 : decode cX10_most 119 = .ok (.iload 7, 2) := by decide +kernel
theorem dX10_most_121 : decode cX10_most 121 = .ok (.iload 5, 2) := by decide +kernel
theorem dX10_most_123 : decode cX10_most 123 = .ok (.if_icmp .le 8, 3) := by decide +kernel
theorem dX10_most_126 : decode cX10_most 126 = .ok (.iload 7, 2) := by decide +kernel
theorem dX10_most_128 : decode cX10_most 128 = .ok (.goto 5, 3) := by decide +kernel
theorem dX10_most_131 : decode cX10_most 131 = .ok (.iload 5, 2) := by decide +kernel
theorem dX10_most_133 : decode cX10_most 133 = .ok (.istore 5, 2) := by decide +kernel
theorem dX10_most_135 : decode cX10_most 135 = .ok (.iinc 6 1, 3) := by decide +kernel
theorem dX10_most_138 : decode cX10_most 138 = .ok (.goto (-75), 3) := by decide +kernel
theorem dX10_most_141 : decode cX10_most 141 = .ok (.iload 5, 2) := by decide +kernel
theorem dX10_most_143 : decode cX10_most 143 = .ok (.ifCond .ge 7, 3) := by decide +kernel
theorem dX10_most_146 : decode cX10_most 146 = .ok (.iconst 0, 1) := by decide +kernel
theorem dX10_most_147 : decode cX10_most 147 = .ok (.goto 5, 3) := by decide +kernel
theorem dX10_most_150 : decode cX10_most 150 = .ok (.iload 5, 2) := by decide +kernel
theorem dX10_most_152 : decode cX10_most 152 = .ok (.ireturn, 1) := by decide +kernel
abbrev rmX10_most : Room := { frames := 3, cells := 0, slots := 0, locals := 72 }
theorem yd_X10_most : yX10_most.cls = RX10 ∧ yX10_most.cls ≠ "java/lang/invoke/MethodHandle" ∧ yX10_most.cls ≠ "java/lang/invoke/VarHandle" ∧ (parseMethodDescriptor yX10_most.desc).map (fun d => d.parameters.length) = some 3 := by decide +kernel
def fX10_most_L63_J135 (r : RS) (l1 : Int32) (l2 : Int32) (l3 : Int32) (l5 : Int32) (l6 : Int32) : Option ((Int32 × Int32 × RS) ⊕ (Int32 × RS)) :=
  some (.inl (l5, (l6 + (1 : Int32)), r))
def fX10_most_L63_J133 (r : RS) (l1 : Int32) (l2 : Int32) (l3 : Int32) (l6 : Int32) (s0 : Int32) : Option ((Int32 × Int32 × RS) ⊕ (Int32 × RS)) :=
  fX10_most_L63_J135 r l1 l2 l3 s0 l6
def fX10_most_L63_J116 (r : RS) (l1 : Int32) (l2 : Int32) (l3 : Int32) (l5 : Int32) (l6 : Int32) (l7 : Int32) (s0 : Int32) : Option ((Int32 × Int32 × RS) ⊕ (Int32 × RS)) :=
  if l7 ≤ l5 then
    fX10_most_L63_J133 (rI r 6 s0) l1 l2 l3 l6 l5
  else
    fX10_most_L63_J133 (rI r 6 s0) l1 l2 l3 l6 l7
def fX10_most_L63_J89 (r : RS) (l1 : Int32) (l2 : Int32) (l3 : Int32) (l5 : Int32) (l6 : Int32) : Option ((Int32 × Int32 × RS) ⊕ (Int32 × RS)) :=
  (fX10_settles r l1 l2 l6).bind fun q5 =>
  if q5.1 ≤ l5 then
    fX10_most_L63_J116 q5.2 l1 l2 l3 l5 l6 q5.1 (q5.2.1 6)
  else
    fX10_most_L63_J116 q5.2 l1 l2 l3 l5 l6 q5.1 l6
def fX10_most_L63 (r : RS) (l1 : Int32) (l2 : Int32) (l3 : Int32) (l5 : Int32) (l6 : Int32) : Option ((Int32 × Int32 × RS) ⊕ (Int32 × RS)) :=
  (fX10_inputs r l1).bind fun q4 =>
  if q4 ≤ l6 then
    some (.inr (l5, r))
  else
    if l3 = (2 : Int32) then
      fX10_most_L63_J89 r l1 l2 l3 l5 l6
    else
      (fX10_say0 r l1 l6).bind fun q6 =>
      if q6 = l3 then
        fX10_most_L63_J89 r l1 l2 l3 l5 l6
      else
        fX10_most_L63_J135 r l1 l2 l3 l5 l6
def fX10_most_J30 (r : RS) : Option (Int32 × RS) :=
  some ((-2 : Int32), r)
def fX10_most (r : RS) (a1 : Int32) (a2 : Int32) (a3 : Int32) : Option (Int32 × RS) :=
  (fX10_isPlace a1).bind fun q1 =>
  if q1 = 0 then
    fX10_most_J30 (rI r 6 (-1 : Int32))
  else
    if a2 < 0 then
      fX10_most_J30 (rI r 6 (-1 : Int32))
    else
      if (2 : Int32) < a2 then
        fX10_most_J30 (rI r 6 (-1 : Int32))
      else
        if a3 < 0 then
          fX10_most_J30 (rI r 6 (-1 : Int32))
        else
          if a3 ≤ (2 : Int32) then
            (fX10_askTold (rI r 6 (-1 : Int32)) a1).bind fun q2 =>
            if q2 = 0 then
              (fX10_tellCubes (rI r 6 (-1 : Int32)) a1).bind fun q3 =>
              (lpN (fun u => fX10_most_L63 u.2.2 a1 a2 a3 u.1 u.2.1) bigN ((-1 : Int32), (0 : Int32), q3)).bind fun e7 =>
              if 0 ≤ e7.1 then
                some (e7.1, e7.2)
              else
                some ((0 : Int32), e7.2)
            else
              (fX10_meet (rI r 6 (-1 : Int32)) q2).bind fun q8 =>
              some (q8.1, q8.2)
          else
            fX10_most_J30 (rI r 6 (-1 : Int32))
set_option maxHeartbeats 4000000 in
set_option maxRecDepth 100000 in
theorem tX10_most_L63 {κ : KK} {p : Program} {l : Launch} {e : Env} {s : State} {m : MethodId} {args : Array Value} {below : List Frame} {meth : Method} {c : Code} (C : Cx κ p s m args meth c cX10_most 8 RX10 (some .int)) {o : Nat} {v : Option Value} {B' : Heap → Prop} {r : RS} {l1 : Int32} {l2 : Int32} {l3 : Int32} {l5 : Int32} {l6 : Int32} {y : (Int32 × Int32 × RS) ⊕ (Int32 × RS)} (h : fX10_most_L63 r l1 l2 l3 l5 l6 = some y) (kc : ∀ u, y = .inl u → GR κ p l e s m args below meth c rmX10_most 8 o v B' u.2.2 63 [(0, .ref o), (1, .int l1), (2, .int l2), (3, .int l3), (5, .int u.1), (6, .int u.2.1)] []) (kx : ∀ w, y = .inr w → GR κ p l e s m args below meth c rmX10_most 8 o v B' w.2 141 [(5, .int w.1)] []) : GR κ p l e s m args below meth c rmX10_most 8 o v B' r 63 [(0, .ref o), (1, .int l1), (2, .int l2), (3, .int l3), (5, .int l5), (6, .int l6)] [] := by
  have J135 : ∀ (r : RS) (l5 : Int32) (l6 : Int32), fX10_most_L63_J135 r l1 l2 l3 l5 l6 = some y → GR κ p l e s m args below meth c rmX10_most 8 o v B' r 135 [(0, .ref o), (1, .int l1), (2, .int l2), (3, .int l3), (5, .int l5), (6, .int l6)] [] := by
    intro r l5 l6 h
    unfold fX10_most_L63_J135 at h
    refine G_iinc (pc' := 138) C dX10_most_135 5 rfl rfl [(6, .int (l6 + (1 : Int32))), (0, .ref o), (1, .int l1), (2, .int l2), (3, .int l3), (5, .int l5)] (by decide) rfl rfl ?_
    refine G_goto (tgt := 63) C dX10_most_138 (by decide) ?_
    exact G_sub [1, 2, 3, 4, 5, 0] rfl (kc _ (Option.some.inj h).symm)
  have J133 : ∀ (r : RS) (l6 : Int32) (s0 : Int32), fX10_most_L63_J133 r l1 l2 l3 l6 s0 = some y → GR κ p l e s m args below meth c rmX10_most 8 o v B' r 133 [(0, .ref o), (1, .int l1), (2, .int l2), (3, .int l3), (6, .int l6)] [.int s0] := by
    intro r l6 s0 h
    unfold fX10_most_L63_J133 at h
    refine G_istore (pc' := 135) C dX10_most_133 [(5, .int s0), (0, .ref o), (1, .int l1), (2, .int l2), (3, .int l3), (6, .int l6)] (by decide) rfl rfl ?_
    exact G_sub [1, 2, 3, 4, 0, 5] rfl (J135 r s0 l6 h)
  have J116 : ∀ (r : RS) (l5 : Int32) (l6 : Int32) (l7 : Int32) (s0 : Int32), fX10_most_L63_J116 r l1 l2 l3 l5 l6 l7 s0 = some y → GR κ p l e s m args below meth c rmX10_most 8 o v B' r 116 [(0, .ref o), (1, .int l1), (2, .int l2), (3, .int l3), (5, .int l5), (6, .int l6), (7, .int l7)] [.int s0, .ref o] := by
    intro r l5 l6 l7 s0 h
    unfold fX10_most_L63_J116 at h
    refine R_p_mostAt (pc' := 119) C dX10_most_116 rfl ?_
    refine G_iload (pc' := 121) C dX10_most_119 6 rfl rfl ?_
    refine G_iload (pc' := 123) C dX10_most_121 4 rfl rfl ?_
    refine G_icmp_le (tgt := 131) (pc' := 126) C dX10_most_123 (by decide) rfl (fun hc => ?_) (fun hc => ?_)
    · replace h := z_ip hc h
      refine G_iload (pc' := 133) C dX10_most_131 4 rfl rfl ?_
      exact G_sub [0, 1, 2, 3, 5] rfl (J133 (rI r 6 s0) l6 l5 h)
    · replace h := z_in hc h
      refine G_iload (pc' := 128) C dX10_most_126 6 rfl rfl ?_
      refine G_goto (tgt := 133) C dX10_most_128 (by decide) ?_
      exact G_sub [0, 1, 2, 3, 5] rfl (J133 (rI r 6 s0) l6 l7 h)
  have J89 : ∀ (r : RS) (l5 : Int32) (l6 : Int32), fX10_most_L63_J89 r l1 l2 l3 l5 l6 = some y → GR κ p l e s m args below meth c rmX10_most 8 o v B' r 89 [(0, .ref o), (1, .int l1), (2, .int l2), (3, .int l3), (5, .int l5), (6, .int l6)] [] := by
    intro r l5 l6 h
    unfold fX10_most_L63_J89 at h
    refine G_aload_n (pc' := 90) C dX10_most_89 0 rfl rfl ?_
    refine G_iload_n (pc' := 91) C dX10_most_90 1 rfl rfl ?_
    refine G_iload_n (pc' := 92) C dX10_most_91 2 rfl rfl ?_
    refine G_iload (pc' := 94) C dX10_most_92 5 rfl rfl ?_
    obtain ⟨q5, hq5, h⟩ := ob h
    refine G_cV0 (pc' := 97) C dX10_most_94 (tX10_settles κ l o r l1 l2 l6 q5 hq5) (wV tw_ml_X10_216 tw_im_X10_settles tw_se_X10_X10_settles tw_in_X10 tw_co_X10_settles) yd_X10_settles rfl fi_X10 (RB_rd 0 rfl) rfl rfl (by decide) rfl (Nat.le_of_ble_eq_true rfl) rfl rfl ?_
    refine G_istore (pc' := 99) C dX10_most_97 [(7, .int q5.1), (0, .ref o), (1, .int l1), (2, .int l2), (3, .int l3), (5, .int l5), (6, .int l6)] (by decide) rfl rfl ?_
    refine G_aload_n (pc' := 100) C dX10_most_99 1 rfl rfl ?_
    refine G_iload (pc' := 102) C dX10_most_100 0 rfl rfl ?_
    refine G_iload (pc' := 104) C dX10_most_102 5 rfl rfl ?_
    refine G_icmp_le (tgt := 112) (pc' := 107) C dX10_most_104 (by decide) rfl (fun hc => ?_) (fun hc => ?_)
    · replace h := z_ip hc h
      refine G_aload_n (pc' := 113) C dX10_most_112 1 rfl rfl ?_
      refine R_g_mostAt (pc' := 116) C dX10_most_113 rfl ?_
      exact G_sub [1, 2, 3, 4, 5, 6, 0] rfl (J116 q5.2 l5 l6 q5.1 (q5.2.1 6) h)
    · replace h := z_in hc h
      refine G_iload (pc' := 109) C dX10_most_107 6 rfl rfl ?_
      refine G_goto (tgt := 116) C dX10_most_109 (by decide) ?_
      exact G_sub [1, 2, 3, 4, 5, 6, 0] rfl (J116 q5.2 l5 l6 q5.1 l6 h)
  unfold fX10_most_L63 at h
  refine G_iload (pc' := 65) C dX10_most_63 5 rfl rfl ?_
  refine G_aload_n (pc' := 66) C dX10_most_65 0 rfl rfl ?_
  refine G_iload_n (pc' := 67) C dX10_most_66 1 rfl rfl ?_
  obtain ⟨q4, hq4, h⟩ := ob h
  refine G_cV0 (pc' := 70) C dX10_most_67 (tX10_inputs κ l o r l1 q4 hq4) (wV tw_ml_X10_119 tw_im_X10_inputs tw_se_X10_X10_inputs tw_in_X10 tw_co_X10_inputs) yd_X10_inputs rfl fi_X10 (RB_rd 0 rfl) rfl rfl (by decide) rfl (Nat.le_of_ble_eq_true rfl) rfl rfl ?_
  refine G_icmp_ge (tgt := 141) (pc' := 73) C dX10_most_70 (by decide) rfl (fun hc => ?_) (fun hc => ?_)
  · replace h := z_ip hc h
    exact G_sub [4] rfl (kx _ (Option.some.inj h).symm)
  · replace h := z_in hc h
    refine G_iload_n (pc' := 74) C dX10_most_73 3 rfl rfl ?_
    refine G_iconst (pc' := 75) (v := (2 : Int32)) C dX10_most_74 (by decide) rfl ?_
    refine G_icmp_eq (tgt := 89) (pc' := 78) C dX10_most_75 (by decide) rfl (fun hc => ?_) (fun hc => ?_)
    · replace h := z_ip hc h
      exact G_sub [0, 1, 2, 3, 4, 5] rfl (J89 r l5 l6 h)
    · replace h := z_in hc h
      refine G_aload_n (pc' := 79) C dX10_most_78 0 rfl rfl ?_
      refine G_iload_n (pc' := 80) C dX10_most_79 1 rfl rfl ?_
      refine G_iload (pc' := 82) C dX10_most_80 5 rfl rfl ?_
      obtain ⟨q6, hq6, h⟩ := ob h
      refine G_cV0 (pc' := 85) C dX10_most_82 (tX10_say0 κ l o r l1 l6 q6 hq6) (wV tw_ml_X10_123 tw_im_X10_say0 tw_se_X10_X10_say0 tw_in_X10 tw_co_X10_say0) yd_X10_say0 rfl fi_X10 (RB_rd 0 rfl) rfl rfl (by decide) rfl (Nat.le_of_ble_eq_true rfl) rfl rfl ?_
      refine G_iload_n (pc' := 86) C dX10_most_85 3 rfl rfl ?_
      refine G_icmp_ne (tgt := 135) (pc' := 89) C dX10_most_86 (by decide) rfl (fun hc => ?_) (fun hc => ?_)
      · replace h := z_in hc h
        exact G_sub [0, 1, 2, 3, 4, 5] rfl (J135 r l5 l6 h)
      · replace h := z_ip hc h
        exact G_sub [0, 1, 2, 3, 4, 5] rfl (J89 r l5 l6 h)
set_option maxHeartbeats 4000000 in
set_option maxRecDepth 100000 in
theorem tX10_most (κ : KK) (l : Launch) (o : Nat) (r : RS) (a1 : Int32) (a2 : Int32) (a3 : Int32) (q : Int32 × RS) (h : fX10_most r a1 a2 a3 = some q) : MM κ l yX10_most cX10_most 8 (some .int) rmX10_most (RA o) [.ref o, .int a1, .int a2, .int a3] (RB κ o r) (some (Value.int q.1)) (RB κ o q.2) := by
  refine MM.of (by decide +kernel) (Nat.le_of_ble_eq_true rfl) ?_
  intro p e s m below meth c C hnm
  have J30 : ∀ (r : RS), fX10_most_J30 r = some q → GR κ p l e s m ([.ref o, .int a1, .int a2, .int a3] : List Value).toArray below meth c rmX10_most 8 o (some (Value.int q.1)) (RB κ o q.2) r 30 [] [] := by
    intro r h
    unfold fX10_most_J30 at h
    refine G_bipush (pc' := 32) (v := (-2 : Int32)) C dX10_most_30 (by decide) rfl ?_
    obtain rfl := Option.some.inj h
    exact G_iret C dX10_most_32 (fun _ h => h)
  unfold fX10_most at h
  refine G_sub (lv' := [(0, .ref o), (1, .int a1), (2, .int a2), (3, .int a3)]) [0, 1, 2, 3] rfl ?_
  refine G_aload_n (pc' := 1) C dX10_most_0 0 rfl rfl ?_
  refine G_iconst (pc' := 2) (v := (-1 : Int32)) C dX10_most_1 (by decide) rfl ?_
  refine R_p_mostAt (pc' := 5) C dX10_most_2 rfl ?_
  refine G_iload_n (pc' := 6) C dX10_most_5 1 rfl rfl ?_
  obtain ⟨q1, hq1, h⟩ := ob h
  refine G_cS0 (pc' := 9) C dX10_most_6 (tX10_isPlace κ l (RA o) (RB κ o (rI r 6 (-1 : Int32))) a1 q1 hq1) (wS tw_ml_X10_115 tw_st_X10_isPlace tw_co_X10_isPlace tw_in_X10) yd_X10_isPlace rfl rfl rfl (by decide) rfl (Nat.le_of_ble_eq_true rfl) rfl rfl ?_
  refine G_if_eq (tgt := 30) (pc' := 12) C dX10_most_9 (by decide) rfl (fun hc => ?_) (fun hc => ?_)
  · replace h := z_ip hc h
    exact G_sub [] rfl (J30 (rI r 6 (-1 : Int32)) h)
  · replace h := z_in hc h
    refine G_iload_n (pc' := 13) C dX10_most_12 2 rfl rfl ?_
    refine G_if_lt (tgt := 30) (pc' := 16) C dX10_most_13 (by decide) rfl (fun hc => ?_) (fun hc => ?_)
    · replace h := z_ip hc h
      exact G_sub [] rfl (J30 (rI r 6 (-1 : Int32)) h)
    · replace h := z_in hc h
      refine G_iload_n (pc' := 17) C dX10_most_16 2 rfl rfl ?_
      refine G_iconst (pc' := 18) (v := (2 : Int32)) C dX10_most_17 (by decide) rfl ?_
      refine G_icmp_gt (tgt := 30) (pc' := 21) C dX10_most_18 (by decide) rfl (fun hc => ?_) (fun hc => ?_)
      · replace h := z_ip hc h
        exact G_sub [] rfl (J30 (rI r 6 (-1 : Int32)) h)
      · replace h := z_in hc h
        refine G_iload_n (pc' := 22) C dX10_most_21 3 rfl rfl ?_
        refine G_if_lt (tgt := 30) (pc' := 25) C dX10_most_22 (by decide) rfl (fun hc => ?_) (fun hc => ?_)
        · replace h := z_ip hc h
          exact G_sub [] rfl (J30 (rI r 6 (-1 : Int32)) h)
        · replace h := z_in hc h
          refine G_iload_n (pc' := 26) C dX10_most_25 3 rfl rfl ?_
          refine G_iconst (pc' := 27) (v := (2 : Int32)) C dX10_most_26 (by decide) rfl ?_
          refine G_icmp_le (tgt := 33) (pc' := 30) C dX10_most_27 (by decide) rfl (fun hc => ?_) (fun hc => ?_)
          · replace h := z_ip hc h
            refine G_aload_n (pc' := 34) C dX10_most_33 0 rfl rfl ?_
            refine G_iload_n (pc' := 35) C dX10_most_34 1 rfl rfl ?_
            obtain ⟨q2, hq2, h⟩ := ob h
            refine G_cV0 (pc' := 38) C dX10_most_35 (tX10_askTold κ l o (rI r 6 (-1 : Int32)) a1 q2 hq2) (wV tw_ml_X10_213 tw_im_X10_askTold tw_se_X10_X10_askTold tw_in_X10 tw_co_X10_askTold) yd_X10_askTold rfl fi_X10 (RB_rd 0 rfl) rfl rfl (by decide) rfl (Nat.le_of_ble_eq_true rfl) rfl rfl ?_
            refine G_istore (pc' := 40) C dX10_most_38 [(4, .int q2), (0, .ref o), (1, .int a1), (2, .int a2), (3, .int a3)] (by decide) rfl rfl ?_
            refine G_iload (pc' := 42) C dX10_most_40 0 rfl rfl ?_
            refine G_if_eq (tgt := 52) (pc' := 45) C dX10_most_42 (by decide) rfl (fun hc => ?_) (fun hc => ?_)
            · replace h := z_ip hc h
              refine G_aload_n (pc' := 53) C dX10_most_52 1 rfl rfl ?_
              refine G_iload_n (pc' := 54) C dX10_most_53 2 rfl rfl ?_
              obtain ⟨q3, hq3, h⟩ := ob h
              refine G_cV0 (pc' := 57) C dX10_most_54 (tX10_tellCubes κ l o (rI r 6 (-1 : Int32)) a1 q3 hq3) (wV tw_ml_X10_186 tw_im_X10_tellCubes tw_se_X10_X10_tellCubes tw_in_X10 tw_co_X10_tellCubes) yd_X10_tellCubes rfl fi_X10 (RB_rd 0 rfl) rfl rfl (by decide) rfl (Nat.le_of_ble_eq_true rfl) rfl rfl ?_
              refine G_iconst (pc' := 58) (v := (-1 : Int32)) C dX10_most_57 (by decide) rfl ?_
              refine G_istore (pc' := 60) C dX10_most_58 [(5, .int (-1 : Int32)), (4, .int q2), (0, .ref o), (1, .int a1), (2, .int a2), (3, .int a3)] (by decide) rfl rfl ?_
              refine G_iconst (pc' := 61) (v := (0 : Int32)) C dX10_most_60 (by decide) rfl ?_
              refine G_istore (pc' := 63) C dX10_most_61 [(6, .int (0 : Int32)), (5, .int (-1 : Int32)), (4, .int q2), (0, .ref o), (1, .int a1), (2, .int a2), (3, .int a3)] (by decide) rfl rfl ?_
              obtain ⟨e7, hle7, h⟩ := ob h
              refine G_sub (lv' := [(0, .ref o), (1, .int a1), (2, .int a2), (3, .int a3), (5, .int (-1 : Int32)), (6, .int (0 : Int32))]) [3, 4, 5, 6, 1, 0] rfl ?_
              refine lpN_ind (body := fun u => fX10_most_L63 u.2.2 a1 a2 a3 u.1 u.2.1) (P := fun u => GR κ p l e s m ([.ref o, .int a1, .int a2, .int a3] : List Value).toArray below meth c rmX10_most 8 o (some (Value.int q.1)) (RB κ o q.2) u.2.2 63 [(0, .ref o), (1, .int a1), (2, .int a2), (3, .int a3), (5, .int u.1), (6, .int u.2.1)] []) (X := fun w => GR κ p l e s m ([.ref o, .int a1, .int a2, .int a3] : List Value).toArray below meth c rmX10_most 8 o (some (Value.int q.1)) (RB κ o q.2) w.2 141 [(5, .int w.1)] []) (fun u y hb kc kx => tX10_most_L63 C hb kc kx) _ _ _ hle7 ?_
              refine G_iload (pc' := 143) C dX10_most_141 0 rfl rfl ?_
              refine G_if_ge (tgt := 150) (pc' := 146) C dX10_most_143 (by decide) rfl (fun hc => ?_) (fun hc => ?_)
              · replace h := z_ip hc h
                refine G_iload (pc' := 152) C dX10_most_150 0 rfl rfl ?_
                obtain rfl := Option.some.inj h
                exact G_iret C dX10_most_152 (fun _ h => h)
              · replace h := z_in hc h
                refine G_iconst (pc' := 147) (v := (0 : Int32)) C dX10_most_146 (by decide) rfl ?_
                refine G_goto (tgt := 152) C dX10_most_147 (by decide) ?_
                obtain rfl := Option.some.inj h
                exact G_iret C dX10_most_152 (fun _ h => h)
            · replace h := z_in hc h
              refine G_aload_n (pc' := 46) C dX10_most_45 1 rfl rfl ?_
              refine G_iload (pc' := 48) C dX10_most_46 0 rfl rfl ?_
              obtain ⟨q8, hq8, h⟩ := ob h
              refine G_cV0 (pc' := 51) C dX10_most_48 (tX10_meet κ l o (rI r 6 (-1 : Int32)) q2 q8 hq8) (wV tw_ml_X10_136 tw_im_X10_meet tw_se_X10_X10_meet tw_in_X10 tw_co_X10_meet) yd_X10_meet rfl fi_X10 (RB_rd 0 rfl) rfl rfl (by decide) rfl (Nat.le_of_ble_eq_true rfl) rfl rfl ?_
              obtain rfl := Option.some.inj h
              exact G_iret C dX10_most_51 (fun _ h => h)
          · replace h := z_in hc h
            exact G_sub [] rfl (J30 (rI r 6 (-1 : Int32)) h)
theorem dX10_where_0 : decode cX10_where 0 = .ok (.aload_n 0, 1) := by decide +kernel
theorem dX10_where_1 : decode cX10_where 1 = .ok (.iload_n 1, 1) := by decide +kernel
theorem dX10_where_2 : decode cX10_where 2 = .ok (.iload_n 2, 1) := by decide +kernel
theorem dX10_where_3 : decode cX10_where 3 = .ok (.iload_n 3, 1) := by decide +kernel
theorem dX10_where_4 : decode cX10_where 4 = .ok (.invokevirtual 222, 3) := by decide +kernel
theorem dX10_where_7 : decode cX10_where 7 = .ok (.istore 4, 2) := by decide +kernel
theorem dX10_where_9 : decode cX10_where 9 = .ok (.iload 4, 2) := by decide +kernel
theorem dX10_where_11 : decode cX10_where 11 = .ok (.ifCond .ge 8, 3) := by decide +kernel
theorem dX10_where_14 : decode cX10_where 14 = .ok (.iload 4, 2) := by decide +kernel
theorem dX10_where_16 : decode cX10_where 16 = .ok (.goto 7, 3) := by decide +kernel
theorem dX10_where_19 : decode cX10_where 19 = .ok (.aload_n 0, 1) := by decide +kernel
theorem dX10_where_20 : decode cX10_where 20 = .ok (.getfield 219, 3) := by decide +kernel
theorem dX10_where_23 : decode cX10_where 23 = .ok (.ireturn, 1) := by decide +kernel
abbrev rmX10_where : Room := { frames := 4, cells := 0, slots := 0, locals := 99 }
theorem yd_X10_where : yX10_where.cls = RX10 ∧ yX10_where.cls ≠ "java/lang/invoke/MethodHandle" ∧ yX10_where.cls ≠ "java/lang/invoke/VarHandle" ∧ (parseMethodDescriptor yX10_where.desc).map (fun d => d.parameters.length) = some 3 := by decide +kernel
def fX10_where (r : RS) (a1 : Int32) (a2 : Int32) (a3 : Int32) : Option (Int32 × RS) :=
  (fX10_most r a1 a2 a3).bind fun q1 =>
  if 0 ≤ q1.1 then
    some ((q1.2.1 6), q1.2)
  else
    some (q1.1, q1.2)
set_option maxHeartbeats 4000000 in
set_option maxRecDepth 100000 in
theorem tX10_where (κ : KK) (l : Launch) (o : Nat) (r : RS) (a1 : Int32) (a2 : Int32) (a3 : Int32) (q : Int32 × RS) (h : fX10_where r a1 a2 a3 = some q) : MM κ l yX10_where cX10_where 5 (some .int) rmX10_where (RA o) [.ref o, .int a1, .int a2, .int a3] (RB κ o r) (some (Value.int q.1)) (RB κ o q.2) := by
  refine MM.of (by decide +kernel) (Nat.le_of_ble_eq_true rfl) ?_
  intro p e s m below meth c C hnm
  unfold fX10_where at h
  refine G_sub (lv' := [(0, .ref o), (1, .int a1), (2, .int a2), (3, .int a3)]) [0, 1, 2, 3] rfl ?_
  refine G_aload_n (pc' := 1) C dX10_where_0 0 rfl rfl ?_
  refine G_iload_n (pc' := 2) C dX10_where_1 1 rfl rfl ?_
  refine G_iload_n (pc' := 3) C dX10_where_2 2 rfl rfl ?_
  refine G_iload_n (pc' := 4) C dX10_where_3 3 rfl rfl ?_
  obtain ⟨q1, hq1, h⟩ := ob h
  refine G_cV0 (pc' := 7) C dX10_where_4 (tX10_most κ l o r a1 a2 a3 q1 hq1) (wV tw_ml_X10_222 tw_im_X10_most tw_se_X10_X10_most tw_in_X10 tw_co_X10_most) yd_X10_most rfl fi_X10 (RB_rd 0 rfl) rfl rfl (by decide) rfl (Nat.le_of_ble_eq_true rfl) rfl rfl ?_
  refine G_istore (pc' := 9) C dX10_where_7 [(4, .int q1.1), (0, .ref o), (1, .int a1), (2, .int a2), (3, .int a3)] (by decide) rfl rfl ?_
  refine G_iload (pc' := 11) C dX10_where_9 0 rfl rfl ?_
  refine G_if_ge (tgt := 19) (pc' := 14) C dX10_where_11 (by decide) rfl (fun hc => ?_) (fun hc => ?_)
  · replace h := z_ip hc h
    refine G_aload_n (pc' := 20) C dX10_where_19 1 rfl rfl ?_
    refine R_g_mostAt (pc' := 23) C dX10_where_20 rfl ?_
    obtain rfl := Option.some.inj h
    exact G_iret C dX10_where_23 (fun _ h => h)
  · replace h := z_in hc h
    refine G_iload (pc' := 16) C dX10_where_14 0 rfl rfl ?_
    refine G_goto (tgt := 23) C dX10_where_16 (by decide) ?_
    obtain rfl := Option.some.inj h
    exact G_iret C dX10_where_23 (fun _ h => h)
theorem dX10_polyOf_0 : decode cX10_polyOf 0 = .ok (.iconst 0, 1) := by decide +kernel
theorem dX10_polyOf_1 : decode cX10_polyOf 1 = .ok (.istore_n 3, 1) := by decide +kernel
theorem dX10_polyOf_2 : decode cX10_polyOf 2 = .ok (.iconst 0, 1) := by decide +kernel
theorem dX10_polyOf_3 : decode cX10_polyOf 3 = .ok (.istore 4, 2) := by decide +kernel
theorem dX10_polyOf_5 : decode cX10_polyOf 5 = .ok (.iload 4, 2) := by decide +kernel
theorem dX10_polyOf_7 : decode cX10_polyOf 7 = .ok (.iload_n 2, 1) := by decide +kernel
theorem dX10_polyOf_8 : decode cX10_polyOf 8 = .ok (.if_icmp .gt 54, 3) := by decide +kernel
theorem dX10_polyOf_11 : decode cX10_polyOf 11 = .ok (.iload 4, 2) := by decide +kernel
theorem dX10_polyOf_13 : decode cX10_polyOf 13 = .ok (.iload_n 2, 1) := by decide +kernel
theorem dX10_polyOf_14 : decode cX10_polyOf 14 = .ok (.iconst (-1), 1) := by decide +kernel
theorem dX10_polyOf_15 : decode cX10_polyOf 15 = .ok (.ixor, 1) := by decide +kernel
theorem dX10_polyOf_16 : decode cX10_polyOf 16 = .ok (.iand, 1) := by decide +kernel
theorem dX10_polyOf_17 : decode cX10_polyOf 17 = .ok (.ifCond .ne 39, 3) := by decide +kernel
theorem dX10_polyOf_20 : decode cX10_polyOf 20 = .ok (.iload_n 3, 1) := by decide +kernel
theorem dX10_polyOf_21 : decode cX10_polyOf 21 = .ok (.iload_n 2, 1) := by decide +kernel
theorem dX10_polyOf_22 : decode cX10_polyOf 22 = .ok (.invokestatic 145, 3) := by decide +kernel
theorem dX10_polyOf_25 : decode cX10_polyOf 25 = .ok (.iload 4, 2) := by decide +kernel
theorem dX10_polyOf_27 : decode cX10_polyOf 27 = .ok (.invokestatic 145, 3) := by decide +kernel
theorem dX10_polyOf_30 : decode cX10_polyOf 30 = .ok (.isub, 1) := by decide +kernel
theorem dX10_polyOf_31 : decode cX10_polyOf 31 = .ok (.iconst 2, 1) := by decide +kernel
theorem dX10_polyOf_32 : decode cX10_polyOf 32 = .ok (.irem, 1) := by decide +kernel
theorem dX10_polyOf_33 : decode cX10_polyOf 33 = .ok (.ifCond .ne 13, 3) := by decide +kernel
theorem dX10_polyOf_36 : decode cX10_polyOf 36 = .ok (.aload_n 0, 1) := by decide +kernel
theorem dX10_polyOf_37 : decode cX10_polyOf 37 = .ok (.iload_n 1, 1) := by decide +kernel
theorem dX10_polyOf_38 : decode cX10_polyOf 38 = .ok (.iload 4, 2) := by decide +kernel
theorem dX10_polyOf_40 : decode cX10_polyOf 40 = .ok (.invokevirtual 123, 3) := by decide +kernel
theorem dX10_polyOf_43 : decode cX10_polyOf 43 = .ok (.goto 11, 3) := by decide +kernel
theorem dX10_polyOf_46 : decode cX10_polyOf 46 = .ok (.aload_n 0, 1) := by decide +kernel
theorem dX10_polyOf_47 : decode cX10_polyOf 47 = .ok (.iload_n 1, 1) := by decide +kernel
theorem dX10_polyOf_48 : decode cX10_polyOf 48 = .ok (.iload 4, 2) := by decide +kernel
theorem dX10_polyOf_50 : decode cX10_polyOf 50 = .ok (.invokevirtual 123, 3) := by decide +kernel
theorem dX10_polyOf_53 : decode cX10_polyOf 53 = .ok (.ineg, 1) := by decide +kernel
theorem dX10_polyOf_54 : decode cX10_polyOf 54 = .ok (.iadd, 1) := by decide +kernel
theorem dX10_polyOf_55 : decode cX10_polyOf 55 = .ok (.istore_n 3, 1) := by decide +kernel
theorem dX10_polyOf_56 : decode cX10_polyOf 56 = .ok (.iinc 4 1, 3) := by decide +kernel
theorem dX10_polyOf_59 : decode cX10_polyOf 59 = .ok (.goto (-54), 3) := by decide +kernel
theorem dX10_polyOf_62 : decode cX10_polyOf 62 = .ok (.iload_n 3, 1) := by decide +kernel
theorem dX10_polyOf_63 : decode cX10_polyOf 63 = .ok (.ireturn, 1) := by decide +kernel
abbrev rmX10_polyOf : Room := { frames := 1, cells := 0, slots := 0, locals := 22 }
theorem yd_X10_polyOf : yX10_polyOf.cls = RX10 ∧ yX10_polyOf.cls ≠ "java/lang/invoke/MethodHandle" ∧ yX10_polyOf.cls ≠ "java/lang/invoke/VarHandle" ∧ (parseMethodDescriptor yX10_polyOf.desc).map (fun d => d.parameters.length) = some 2 := by decide +kernel
def fX10_polyOf_L5_J56 (r : RS) (l1 : Int32) (l2 : Int32) (l3 : Int32) (l4 : Int32) : Option ((Int32 × Int32) ⊕ Int32) :=
  some (.inl (l3, (l4 + (1 : Int32))))
def fX10_polyOf_L5_J54 (r : RS) (l1 : Int32) (l2 : Int32) (l4 : Int32) (s0 : Int32) (s1 : Int32) : Option ((Int32 × Int32) ⊕ Int32) :=
  fX10_polyOf_L5_J56 r l1 l2 (s1 + s0) l4
def fX10_polyOf_L5 (r : RS) (l1 : Int32) (l2 : Int32) (l3 : Int32) (l4 : Int32) : Option ((Int32 × Int32) ⊕ Int32) :=
  if l2 < l4 then
    some (.inr l3)
  else
    if (l4 &&& (l2 ^^^ (-1 : Int32))) = 0 then
      (fX10_ones l2).bind fun q1 =>
      (fX10_ones l4).bind fun q2 =>
      if ((q1 - q2) - (q1 - q2) / (2 : Int32) * (2 : Int32)) = 0 then
        (fX10_say0 r l1 l4).bind fun q4 =>
        fX10_polyOf_L5_J54 r l1 l2 l4 q4 l3
      else
        (fX10_say0 r l1 l4).bind fun q3 =>
        fX10_polyOf_L5_J54 r l1 l2 l4 (-q3) l3
    else
      fX10_polyOf_L5_J56 r l1 l2 l3 l4
def fX10_polyOf (r : RS) (a1 : Int32) (a2 : Int32) : Option (Int32) :=
  (lpN (fun u => fX10_polyOf_L5 r a1 a2 u.1 u.2) bigN ((0 : Int32), (0 : Int32))).bind fun e5 =>
  some e5
set_option maxHeartbeats 4000000 in
set_option maxRecDepth 100000 in
theorem tX10_polyOf_L5 {κ : KK} {p : Program} {l : Launch} {e : Env} {s : State} {m : MethodId} {args : Array Value} {below : List Frame} {meth : Method} {c : Code} (C : Cx κ p s m args meth c cX10_polyOf 5 RX10 (some .int)) {o : Nat} {v : Option Value} {B' : Heap → Prop} {r : RS} {l1 : Int32} {l2 : Int32} {l3 : Int32} {l4 : Int32} {y : (Int32 × Int32) ⊕ Int32} (h : fX10_polyOf_L5 r l1 l2 l3 l4 = some y) (kc : ∀ u, y = .inl u → GR κ p l e s m args below meth c rmX10_polyOf 5 o v B' r 5 [(0, .ref o), (1, .int l1), (2, .int l2), (3, .int u.1), (4, .int u.2)] []) (kx : ∀ w, y = .inr w → GR κ p l e s m args below meth c rmX10_polyOf 5 o v B' r 62 [(3, .int w)] []) : GR κ p l e s m args below meth c rmX10_polyOf 5 o v B' r 5 [(0, .ref o), (1, .int l1), (2, .int l2), (3, .int l3), (4, .int l4)] [] := by
  have J56 : ∀ (l3 : Int32) (l4 : Int32), fX10_polyOf_L5_J56 r l1 l2 l3 l4 = some y → GR κ p l e s m args below meth c rmX10_polyOf 5 o v B' r 56 [(0, .ref o), (1, .int l1), (2, .int l2), (3, .int l3), (4, .int l4)] [] := by
    intro l3 l4 h
    unfold fX10_polyOf_L5_J56 at h
    refine G_iinc (pc' := 59) C dX10_polyOf_56 4 rfl rfl [(4, .int (l4 + (1 : Int32))), (0, .ref o), (1, .int l1), (2, .int l2), (3, .int l3)] (by decide) rfl rfl ?_
    refine G_goto (tgt := 5) C dX10_polyOf_59 (by decide) ?_
    exact G_sub [1, 2, 3, 4, 0] rfl (kc _ (Option.some.inj h).symm)
  have J54 : ∀ (l4 : Int32) (s0 : Int32) (s1 : Int32), fX10_polyOf_L5_J54 r l1 l2 l4 s0 s1 = some y → GR κ p l e s m args below meth c rmX10_polyOf 5 o v B' r 54 [(0, .ref o), (1, .int l1), (2, .int l2), (4, .int l4)] [.int s0, .int s1] := by
    intro l4 s0 s1 h
    unfold fX10_polyOf_L5_J54 at h
    refine G_iadd (pc' := 55) C dX10_polyOf_54 rfl ?_
    refine G_istore_n (pc' := 56) C dX10_polyOf_55 [(3, .int (s1 + s0)), (0, .ref o), (1, .int l1), (2, .int l2), (4, .int l4)] (by decide) rfl rfl ?_
    exact G_sub [1, 2, 3, 0, 4] rfl (J56 (s1 + s0) l4 h)
  unfold fX10_polyOf_L5 at h
  refine G_iload (pc' := 7) C dX10_polyOf_5 4 rfl rfl ?_
  refine G_iload_n (pc' := 8) C dX10_polyOf_7 2 rfl rfl ?_
  refine G_icmp_gt (tgt := 62) (pc' := 11) C dX10_polyOf_8 (by decide) rfl (fun hc => ?_) (fun hc => ?_)
  · replace h := z_ip hc h
    exact G_sub [3] rfl (kx _ (Option.some.inj h).symm)
  · replace h := z_in hc h
    refine G_iload (pc' := 13) C dX10_polyOf_11 4 rfl rfl ?_
    refine G_iload_n (pc' := 14) C dX10_polyOf_13 2 rfl rfl ?_
    refine G_iconst (pc' := 15) (v := (-1 : Int32)) C dX10_polyOf_14 (by decide) rfl ?_
    refine G_ixor (pc' := 16) C dX10_polyOf_15 rfl ?_
    refine G_iand (pc' := 17) C dX10_polyOf_16 rfl ?_
    refine G_if_ne (tgt := 56) (pc' := 20) C dX10_polyOf_17 (by decide) rfl (fun hc => ?_) (fun hc => ?_)
    · replace h := z_in hc h
      exact G_sub [0, 1, 2, 3, 4] rfl (J56 l3 l4 h)
    · replace h := z_ip hc h
      refine G_iload_n (pc' := 21) C dX10_polyOf_20 3 rfl rfl ?_
      refine G_iload_n (pc' := 22) C dX10_polyOf_21 2 rfl rfl ?_
      obtain ⟨q1, hq1, h⟩ := ob h
      refine G_cS0 (pc' := 25) C dX10_polyOf_22 (tX10_ones κ l (RA o) (RB κ o r) l2 q1 hq1) (wS tw_ml_X10_145 tw_st_X10_ones tw_co_X10_ones tw_in_X10) yd_X10_ones rfl rfl rfl (by decide) rfl (Nat.le_of_ble_eq_true rfl) rfl rfl ?_
      refine G_iload (pc' := 27) C dX10_polyOf_25 4 rfl rfl ?_
      obtain ⟨q2, hq2, h⟩ := ob h
      refine G_cS0 (pc' := 30) C dX10_polyOf_27 (tX10_ones κ l (RA o) (RB κ o r) l4 q2 hq2) (wS tw_ml_X10_145 tw_st_X10_ones tw_co_X10_ones tw_in_X10) yd_X10_ones rfl rfl rfl (by decide) rfl (Nat.le_of_ble_eq_true rfl) rfl rfl ?_
      refine G_isub (pc' := 31) C dX10_polyOf_30 rfl ?_
      refine G_iconst (pc' := 32) (v := (2 : Int32)) C dX10_polyOf_31 (by decide) rfl ?_
      refine G_irem (pc' := 33) C dX10_polyOf_32 (by decide) rfl ?_
      refine G_if_ne (tgt := 46) (pc' := 36) C dX10_polyOf_33 (by decide) rfl (fun hc => ?_) (fun hc => ?_)
      · replace h := z_in hc h
        refine G_aload_n (pc' := 47) C dX10_polyOf_46 0 rfl rfl ?_
        refine G_iload_n (pc' := 48) C dX10_polyOf_47 1 rfl rfl ?_
        refine G_iload (pc' := 50) C dX10_polyOf_48 4 rfl rfl ?_
        obtain ⟨q3, hq3, h⟩ := ob h
        refine G_cV0 (pc' := 53) C dX10_polyOf_50 (tX10_say0 κ l o r l1 l4 q3 hq3) (wV tw_ml_X10_123 tw_im_X10_say0 tw_se_X10_X10_say0 tw_in_X10 tw_co_X10_say0) yd_X10_say0 rfl fi_X10 (RB_rd 0 rfl) rfl rfl (by decide) rfl (Nat.le_of_ble_eq_true rfl) rfl rfl ?_
        refine G_ineg (pc' := 54) C dX10_polyOf_53 rfl ?_
        exact G_sub [0, 1, 2, 4] rfl (J54 l4 (-q3) l3 h)
      · replace h := z_ip hc h
        refine G_aload_n (pc' := 37) C dX10_polyOf_36 0 rfl rfl ?_
        refine G_iload_n (pc' := 38) C dX10_polyOf_37 1 rfl rfl ?_
        refine G_iload (pc' := 40) C dX10_polyOf_38 4 rfl rfl ?_
        obtain ⟨q4, hq4, h⟩ := ob h
        refine G_cV0 (pc' := 43) C dX10_polyOf_40 (tX10_say0 κ l o r l1 l4 q4 hq4) (wV tw_ml_X10_123 tw_im_X10_say0 tw_se_X10_X10_say0 tw_in_X10 tw_co_X10_say0) yd_X10_say0 rfl fi_X10 (RB_rd 0 rfl) rfl rfl (by decide) rfl (Nat.le_of_ble_eq_true rfl) rfl rfl ?_
        refine G_goto (tgt := 54) C dX10_polyOf_43 (by decide) ?_
        exact G_sub [0, 1, 2, 4] rfl (J54 l4 q4 l3 h)
set_option maxHeartbeats 4000000 in
set_option maxRecDepth 100000 in
theorem tX10_polyOf (κ : KK) (l : Launch) (o : Nat) (r : RS) (a1 : Int32) (a2 : Int32) (q : Int32) (h : fX10_polyOf r a1 a2 = some q) : MM κ l yX10_polyOf cX10_polyOf 5 (some .int) rmX10_polyOf (RA o) [.ref o, .int a1, .int a2] (RB κ o r) (some (Value.int q)) (RB κ o r) := by
  refine MM.of (by decide +kernel) (Nat.le_of_ble_eq_true rfl) ?_
  intro p e s m below meth c C hnm
  unfold fX10_polyOf at h
  refine G_sub (lv' := [(0, .ref o), (1, .int a1), (2, .int a2)]) [0, 1, 2] rfl ?_
  refine G_iconst (pc' := 1) (v := (0 : Int32)) C dX10_polyOf_0 (by decide) rfl ?_
  refine G_istore_n (pc' := 2) C dX10_polyOf_1 [(3, .int (0 : Int32)), (0, .ref o), (1, .int a1), (2, .int a2)] (by decide) rfl rfl ?_
  refine G_iconst (pc' := 3) (v := (0 : Int32)) C dX10_polyOf_2 (by decide) rfl ?_
  refine G_istore (pc' := 5) C dX10_polyOf_3 [(4, .int (0 : Int32)), (3, .int (0 : Int32)), (0, .ref o), (1, .int a1), (2, .int a2)] (by decide) rfl rfl ?_
  obtain ⟨e5, hle5, h⟩ := ob h
  refine G_sub (lv' := [(0, .ref o), (1, .int a1), (2, .int a2), (3, .int (0 : Int32)), (4, .int (0 : Int32))]) [2, 3, 4, 1, 0] rfl ?_
  refine lpN_ind (body := fun u => fX10_polyOf_L5 r a1 a2 u.1 u.2) (P := fun u => GR κ p l e s m ([.ref o, .int a1, .int a2] : List Value).toArray below meth c rmX10_polyOf 5 o (some (Value.int q)) (RB κ o r) r 5 [(0, .ref o), (1, .int a1), (2, .int a2), (3, .int u.1), (4, .int u.2)] []) (X := fun w => GR κ p l e s m ([.ref o, .int a1, .int a2] : List Value).toArray below meth c rmX10_polyOf 5 o (some (Value.int q)) (RB κ o r) r 62 [(3, .int w)] []) (fun u y hb kc kx => tX10_polyOf_L5 C hb kc kx) _ _ _ hle5 ?_
  refine G_iload_n (pc' := 63) C dX10_polyOf_62 0 rfl rfl ?_
  obtain rfl := Option.some.inj h
  exact G_iret C dX10_polyOf_63 (fun _ h => h)
theorem dX10_poly_0 : decode cX10_poly 0 = .ok (.iload_n 1, 1) := by decide +kernel
theorem dX10_poly_1 : decode cX10_poly 1 = .ok (.invokestatic 115, 3) := by decide +kernel
theorem dX10_poly_4 : decode cX10_poly 4 = .ok (.ifCond .ne 5, 3) := by decide +kernel
theorem dX10_poly_7 : decode cX10_poly 7 = .ok (.iconst 0, 1) := by decide +kernel
theorem dX10_poly_8 : decode cX10_poly 8 = .ok (.ireturn, 1) := by decide +kernel
theorem dX10_poly_9 : decode cX10_poly 9 = .ok (.aload_n 0, 1) := by decide +kernel
theorem dX10_poly_10 : decode cX10_poly 10 = .ok (.iload_n 1, 1) := by decide +kernel
theorem dX10_poly_11 : decode cX10_poly 11 = .ok (.invokevirtual 213, 3) := by decide +kernel
theorem dX10_poly_14 : decode cX10_poly 14 = .ok (.istore_n 3, 1) := by decide +kernel
theorem dX10_poly_15 : decode cX10_poly 15 = .ok (.iload_n 3, 1) := by decide +kernel
theorem dX10_poly_16 : decode cX10_poly 16 = .ok (.ifCond .eq 11, 3) := by decide +kernel
theorem dX10_poly_19 : decode cX10_poly 19 = .ok (.aload_n 0, 1) := by decide +kernel
theorem dX10_poly_20 : decode cX10_poly 20 = .ok (.iload_n 3, 1) := by decide +kernel
theorem dX10_poly_21 : decode cX10_poly 21 = .ok (.invokevirtual 136, 3) := by decide +kernel
theorem dX10_poly_24 : decode cX10_poly 24 = .ok (.istore_n 3, 1) := by decide +kernel
theorem dX10_poly_25 : decode cX10_poly 25 = .ok (.iconst 0, 1) := by decide +kernel
theorem dX10_poly_26 : decode cX10_poly 26 = .ok (.ireturn, 1) := by decide +kernel
theorem dX10_poly_27 : decode cX10_poly 27 = .ok (.iload_n 2, 1) := by decide +kernel
theorem dX10_poly_28 : decode cX10_poly 28 = .ok (.ifCond .lt 12, 3) := by decide +kernel
theorem dX10_poly_31 : decode cX10_poly 31 = .ok (.iload_n 2, 1) := by decide +kernel
theorem dX10_poly_32 : decode cX10_poly 32 = .ok (.aload_n 0, 1) := by decide +kernel
theorem dX10_poly_33 : decode cX10_poly 33 = .ok (.iload_n 1, 1) := by decide +kernel
theorem dX10_poly_34 : decode cX10_poly 34 = .ok (.invokevirtual 119, 3) := by decide +kernel
theorem dX10_poly_37 : decode cX10_poly 37 = .ok (.if_icmp .lt 7, 3) := by decide +kernel
theorem dX10_poly_40 : decode cX10_poly 40 = .ok (.iconst 0, 1) := by decide +kernel
theorem dX10_poly_41 : decode cX10_poly 41 = .ok (.goto 9, 3) := by decide +kernel
theorem dX10_poly_44 : decode cX10_poly 44 = .ok (.aload_n 0, 1) := by decide +kernel
theorem dX10_poly_45 : decode cX10_poly 45 = .ok (.iload_n 1, 1) := by decide +kernel
theorem dX10_poly_46 : decode cX10_poly 46 = .ok (.iload_n 2, 1) := by decide +kernel
theorem dX10_poly_47 : decode cX10_poly 47 = .ok (.invokevirtual 225, 3) := by decide +kernel
theorem dX10_poly_50 : decode cX10_poly 50 = .ok (.ireturn, 1) := by decide +kernel
abbrev rmX10_poly : Room := { frames := 3, cells := 0, slots := 0, locals := 67 }
theorem yd_X10_poly : yX10_poly.cls = RX10 ∧ yX10_poly.cls ≠ "java/lang/invoke/MethodHandle" ∧ yX10_poly.cls ≠ "java/lang/invoke/VarHandle" ∧ (parseMethodDescriptor yX10_poly.desc).map (fun d => d.parameters.length) = some 2 := by decide +kernel
def fX10_poly_J40 (r : RS) : Option (Int32 × RS) :=
  some ((0 : Int32), r)
def fX10_poly (r : RS) (a1 : Int32) (a2 : Int32) : Option (Int32 × RS) :=
  (fX10_isPlace a1).bind fun q1 =>
  if q1 = 0 then
    some ((0 : Int32), r)
  else
    (fX10_askTold r a1).bind fun q2 =>
    if q2 = 0 then
      if a2 < 0 then
        fX10_poly_J40 r
      else
        (fX10_inputs r a1).bind fun q3 =>
        if a2 < q3 then
          (fX10_polyOf r a1 a2).bind fun q4 =>
          some (q4, r)
        else
          fX10_poly_J40 r
    else
      (fX10_meet r q2).bind fun q5 =>
      some ((0 : Int32), q5.2)
set_option maxHeartbeats 4000000 in
set_option maxRecDepth 100000 in
theorem tX10_poly (κ : KK) (l : Launch) (o : Nat) (r : RS) (a1 : Int32) (a2 : Int32) (q : Int32 × RS) (h : fX10_poly r a1 a2 = some q) : MM κ l yX10_poly cX10_poly 4 (some .int) rmX10_poly (RA o) [.ref o, .int a1, .int a2] (RB κ o r) (some (Value.int q.1)) (RB κ o q.2) := by
  refine MM.of (by decide +kernel) (Nat.le_of_ble_eq_true rfl) ?_
  intro p e s m below meth c C hnm
  have J40 : ∀ (r : RS), fX10_poly_J40 r = some q → GR κ p l e s m ([.ref o, .int a1, .int a2] : List Value).toArray below meth c rmX10_poly 4 o (some (Value.int q.1)) (RB κ o q.2) r 40 [] [] := by
    intro r h
    unfold fX10_poly_J40 at h
    refine G_iconst (pc' := 41) (v := (0 : Int32)) C dX10_poly_40 (by decide) rfl ?_
    refine G_goto (tgt := 50) C dX10_poly_41 (by decide) ?_
    obtain rfl := Option.some.inj h
    exact G_iret C dX10_poly_50 (fun _ h => h)
  unfold fX10_poly at h
  refine G_sub (lv' := [(0, .ref o), (1, .int a1), (2, .int a2)]) [0, 1, 2] rfl ?_
  refine G_iload_n (pc' := 1) C dX10_poly_0 1 rfl rfl ?_
  obtain ⟨q1, hq1, h⟩ := ob h
  refine G_cS0 (pc' := 4) C dX10_poly_1 (tX10_isPlace κ l (RA o) (RB κ o r) a1 q1 hq1) (wS tw_ml_X10_115 tw_st_X10_isPlace tw_co_X10_isPlace tw_in_X10) yd_X10_isPlace rfl rfl rfl (by decide) rfl (Nat.le_of_ble_eq_true rfl) rfl rfl ?_
  refine G_if_ne (tgt := 9) (pc' := 7) C dX10_poly_4 (by decide) rfl (fun hc => ?_) (fun hc => ?_)
  · replace h := z_in hc h
    refine G_aload_n (pc' := 10) C dX10_poly_9 0 rfl rfl ?_
    refine G_iload_n (pc' := 11) C dX10_poly_10 1 rfl rfl ?_
    obtain ⟨q2, hq2, h⟩ := ob h
    refine G_cV0 (pc' := 14) C dX10_poly_11 (tX10_askTold κ l o r a1 q2 hq2) (wV tw_ml_X10_213 tw_im_X10_askTold tw_se_X10_X10_askTold tw_in_X10 tw_co_X10_askTold) yd_X10_askTold rfl fi_X10 (RB_rd 0 rfl) rfl rfl (by decide) rfl (Nat.le_of_ble_eq_true rfl) rfl rfl ?_
    refine G_istore_n (pc' := 15) C dX10_poly_14 [(3, .int q2), (0, .ref o), (1, .int a1), (2, .int a2)] (by decide) rfl rfl ?_
    refine G_iload_n (pc' := 16) C dX10_poly_15 0 rfl rfl ?_
    refine G_if_eq (tgt := 27) (pc' := 19) C dX10_poly_16 (by decide) rfl (fun hc => ?_) (fun hc => ?_)
    · replace h := z_ip hc h
      refine G_iload_n (pc' := 28) C dX10_poly_27 3 rfl rfl ?_
      refine G_if_lt (tgt := 40) (pc' := 31) C dX10_poly_28 (by decide) rfl (fun hc => ?_) (fun hc => ?_)
      · replace h := z_ip hc h
        exact G_sub [] rfl (J40 r h)
      · replace h := z_in hc h
        refine G_iload_n (pc' := 32) C dX10_poly_31 3 rfl rfl ?_
        refine G_aload_n (pc' := 33) C dX10_poly_32 1 rfl rfl ?_
        refine G_iload_n (pc' := 34) C dX10_poly_33 2 rfl rfl ?_
        obtain ⟨q3, hq3, h⟩ := ob h
        refine G_cV0 (pc' := 37) C dX10_poly_34 (tX10_inputs κ l o r a1 q3 hq3) (wV tw_ml_X10_119 tw_im_X10_inputs tw_se_X10_X10_inputs tw_in_X10 tw_co_X10_inputs) yd_X10_inputs rfl fi_X10 (RB_rd 0 rfl) rfl rfl (by decide) rfl (Nat.le_of_ble_eq_true rfl) rfl rfl ?_
        refine G_icmp_lt (tgt := 44) (pc' := 40) C dX10_poly_37 (by decide) rfl (fun hc => ?_) (fun hc => ?_)
        · replace h := z_ip hc h
          refine G_aload_n (pc' := 45) C dX10_poly_44 1 rfl rfl ?_
          refine G_iload_n (pc' := 46) C dX10_poly_45 2 rfl rfl ?_
          refine G_iload_n (pc' := 47) C dX10_poly_46 3 rfl rfl ?_
          obtain ⟨q4, hq4, h⟩ := ob h
          refine G_cV0 (pc' := 50) C dX10_poly_47 (tX10_polyOf κ l o r a1 a2 q4 hq4) (wV tw_ml_X10_225 tw_im_X10_polyOf tw_se_X10_X10_polyOf tw_in_X10 tw_co_X10_polyOf) yd_X10_polyOf rfl fi_X10 (RB_rd 0 rfl) rfl rfl (by decide) rfl (Nat.le_of_ble_eq_true rfl) rfl rfl ?_
          obtain rfl := Option.some.inj h
          exact G_iret C dX10_poly_50 (fun _ h => h)
        · replace h := z_in hc h
          exact G_sub [] rfl (J40 r h)
    · replace h := z_in hc h
      refine G_aload_n (pc' := 20) C dX10_poly_19 1 rfl rfl ?_
      refine G_iload_n (pc' := 21) C dX10_poly_20 0 rfl rfl ?_
      obtain ⟨q5, hq5, h⟩ := ob h
      refine G_cV0 (pc' := 24) C dX10_poly_21 (tX10_meet κ l o r q2 q5 hq5) (wV tw_ml_X10_136 tw_im_X10_meet tw_se_X10_X10_meet tw_in_X10 tw_co_X10_meet) yd_X10_meet rfl fi_X10 (RB_rd 0 rfl) rfl rfl (by decide) rfl (Nat.le_of_ble_eq_true rfl) rfl rfl ?_
      refine G_istore_n (pc' := 25) C dX10_poly_24 [(3, .int q5.1), (0, .ref o), (1, .int a1), (2, .int a2)] (by decide) rfl rfl ?_
      refine G_iconst (pc' := 26) (v := (0 : Int32)) C dX10_poly_25 (by decide) rfl ?_
      obtain rfl := Option.some.inj h
      exact G_iret C dX10_poly_26 (fun _ h => h)
  · replace h := z_ip hc h
    refine G_iconst (pc' := 8) (v := (0 : Int32)) C dX10_poly_7 (by decide) rfl ?_
    obtain rfl := Option.some.inj h
    exact G_iret C dX10_poly_8 (fun _ h => h)
theorem dX10_degree_0 : decode cX10_degree 0 = .ok (.aload_n 0, 1) := by decide +kernel
theorem dX10_degree_1 : decode cX10_degree 1 = .ok (.iload_n 1, 1) := by decide +kernel
theorem dX10_degree_2 : decode cX10_degree 2 = .ok (.invokevirtual 213, 3) := by decide +kernel
theorem dX10_degree_5 : decode cX10_degree 5 = .ok (.istore_n 2, 1) := by decide +kernel
theorem dX10_degree_6 : decode cX10_degree 6 = .ok (.iload_n 2, 1) := by decide +kernel
theorem dX10_degree_7 : decode cX10_degree 7 = .ok (.ifCond .eq 9, 3) := by decide +kernel
theorem dX10_degree_10 : decode cX10_degree 10 = .ok (.aload_n 0, 1) := by decide +kernel
theorem dX10_degree_11 : decode cX10_degree 11 = .ok (.iload_n 2, 1) := by decide +kernel
theorem dX10_degree_12 : decode cX10_degree 12 = .ok (.invokevirtual 136, 3) := by decide +kernel
theorem dX10_degree_15 : decode cX10_degree 15 = .ok (.ireturn, 1) := by decide +kernel
theorem dX10_degree_16 : decode cX10_degree 16 = .ok (.iconst 0, 1) := by decide +kernel
theorem dX10_degree_17 : decode cX10_degree 17 = .ok (.istore_n 3, 1) := by decide +kernel
theorem dX10_degree_18 : decode cX10_degree 18 = .ok (.iconst 0, 1) := by decide +kernel
theorem dX10_degree_19 : decode cX10_degree 19 = .ok (.istore 4, 2) := by decide +kernel
theorem dX10_degree_21 : decode cX10_degree 21 = .ok (.iload 4, 2) := by decide +kernel
theorem dX10_degree_23 : decode cX10_degree 23 = .ok (.aload_n 0, 1) := by decide +kernel
theorem dX10_degree_24 : decode cX10_degree 24 = .ok (.iload_n 1, 1) := by decide +kernel
theorem dX10_degree_25 : decode cX10_degree 25 = .ok (.invokevirtual 119, 3) := by decide +kernel
theorem dX10_degree_28 : decode cX10_degree 28 = .ok (.if_icmp .ge 38, 3) := by decide +kernel
theorem dX10_degree_31 : decode cX10_degree 31 = .ok (.aload_n 0, 1) := by decide +kernel
theorem dX10_degree_32 : decode cX10_degree 32 = .ok (.iload_n 1, 1) := by decide +kernel
theorem dX10_degree_33 : decode cX10_degree 33 = .ok (.iload 4, 2) := by decide +kernel
theorem dX10_degree_35 : decode cX10_degree 35 = .ok (.invokevirtual 225, 3) := by decide +kernel
theorem dX10_degree_38 : decode cX10_degree 38 = .ok (.ifCond .eq 20, 3) := by decide +kernel
theorem dX10_degree_41 : decode cX10_degree 41 = .ok (.iload 4, 2) := by decide +kernel
theorem dX10_degree_43 : decode cX10_degree 43 = .ok (.invokestatic 145, 3) := by decide +kernel
theorem dX10_degree_46 : decode cX10_degree 46 = .ok (.iload_n 3, 1) := by decide +kernel
theorem dX10_degree_47 : decode cX10_degree 47 = .ok (.if_icmp .le 11, 3) := by decide +kernel
theorem dX10_degree_50 : decode cX10_degree 50 = .ok (.iload 4, 2) := by decide +kernel
theorem dX10_degree_52 : decode cX10_degree 52 = .ok (.invokestatic 145, 3) := by decide +kernel
theorem dX10_degree_55 : decode cX10_degree 55 = .ok (.goto 4, 3) := by decide +kernel
theorem dX10_degree_58 : decode cX10_degree 58 = .ok (.iload_n 3, 1) := by decide +kernel
theorem dX10_degree_59 : decode cX10_degree 59 = .ok (.istore_n 3, 1) := by decide +kernel
theorem dX10_degree_60 : decode cX10_degree 60 = .ok (.iinc 4 1, 3) := by decide +kernel
theorem dX10_degree_63 : decode cX10_degree 63 = .ok (.goto (-42), 3) := by decide +kernel
theorem dX10_degree_66 : decode cX10_degree 66 = .ok (.iload_n 3, 1) := by decide +kernel
theorem dX10_degree_67 : decode cX10_degree 67 = .ok (.ireturn, 1) := by decide +kernel
abbrev rmX10_degree : Room := { frames := 3, cells := 0, slots := 0, locals := 67 }
theorem yd_X10_degree : yX10_degree.cls = RX10 ∧ yX10_degree.cls ≠ "java/lang/invoke/MethodHandle" ∧ yX10_degree.cls ≠ "java/lang/invoke/VarHandle" ∧ (parseMethodDescriptor yX10_degree.desc).map (fun d => d.parameters.length) = some 1 := by decide +kernel
def fX10_degree_L21_J59 (r : RS) (l1 : Int32) (l4 : Int32) (s0 : Int32) : Option ((Int32 × Int32) ⊕ Int32) :=
  some (.inl (s0, (l4 + (1 : Int32))))
def fX10_degree_L21_J58 (r : RS) (l1 : Int32) (l3 : Int32) (l4 : Int32) : Option ((Int32 × Int32) ⊕ Int32) :=
  fX10_degree_L21_J59 r l1 l4 l3
def fX10_degree_L21 (r : RS) (l1 : Int32) (l3 : Int32) (l4 : Int32) : Option ((Int32 × Int32) ⊕ Int32) :=
  (fX10_inputs r l1).bind fun q2 =>
  if q2 ≤ l4 then
    some (.inr l3)
  else
    (fX10_polyOf r l1 l4).bind fun q3 =>
    if q3 = 0 then
      fX10_degree_L21_J58 r l1 l3 l4
    else
      (fX10_ones l4).bind fun q4 =>
      if q4 ≤ l3 then
        fX10_degree_L21_J58 r l1 l3 l4
      else
        (fX10_ones l4).bind fun q5 =>
        fX10_degree_L21_J59 r l1 l4 q5
def fX10_degree (r : RS) (a1 : Int32) : Option (Int32 × RS) :=
  (fX10_askTold r a1).bind fun q1 =>
  if q1 = 0 then
    (lpN (fun u => fX10_degree_L21 r a1 u.1 u.2) bigN ((0 : Int32), (0 : Int32))).bind fun e6 =>
    some (e6, r)
  else
    (fX10_meet r q1).bind fun q7 =>
    some (q7.1, q7.2)
set_option maxHeartbeats 4000000 in
set_option maxRecDepth 100000 in
theorem tX10_degree_L21 {κ : KK} {p : Program} {l : Launch} {e : Env} {s : State} {m : MethodId} {args : Array Value} {below : List Frame} {meth : Method} {c : Code} (C : Cx κ p s m args meth c cX10_degree 5 RX10 (some .int)) {o : Nat} {v : Option Value} {B' : Heap → Prop} {r : RS} {l1 : Int32} {l3 : Int32} {l4 : Int32} {y : (Int32 × Int32) ⊕ Int32} (h : fX10_degree_L21 r l1 l3 l4 = some y) (kc : ∀ u, y = .inl u → GR κ p l e s m args below meth c rmX10_degree 5 o v B' r 21 [(0, .ref o), (1, .int l1), (3, .int u.1), (4, .int u.2)] []) (kx : ∀ w, y = .inr w → GR κ p l e s m args below meth c rmX10_degree 5 o v B' r 66 [(3, .int w)] []) : GR κ p l e s m args below meth c rmX10_degree 5 o v B' r 21 [(0, .ref o), (1, .int l1), (3, .int l3), (4, .int l4)] [] := by
  have J59 : ∀ (l4 : Int32) (s0 : Int32), fX10_degree_L21_J59 r l1 l4 s0 = some y → GR κ p l e s m args below meth c rmX10_degree 5 o v B' r 59 [(0, .ref o), (1, .int l1), (4, .int l4)] [.int s0] := by
    intro l4 s0 h
    unfold fX10_degree_L21_J59 at h
    refine G_istore_n (pc' := 60) C dX10_degree_59 [(3, .int s0), (0, .ref o), (1, .int l1), (4, .int l4)] (by decide) rfl rfl ?_
    refine G_iinc (pc' := 63) C dX10_degree_60 3 rfl rfl [(4, .int (l4 + (1 : Int32))), (3, .int s0), (0, .ref o), (1, .int l1)] (by decide) rfl rfl ?_
    refine G_goto (tgt := 21) C dX10_degree_63 (by decide) ?_
    exact G_sub [2, 3, 1, 0] rfl (kc _ (Option.some.inj h).symm)
  have J58 : ∀ (l3 : Int32) (l4 : Int32), fX10_degree_L21_J58 r l1 l3 l4 = some y → GR κ p l e s m args below meth c rmX10_degree 5 o v B' r 58 [(0, .ref o), (1, .int l1), (3, .int l3), (4, .int l4)] [] := by
    intro l3 l4 h
    unfold fX10_degree_L21_J58 at h
    refine G_iload_n (pc' := 59) C dX10_degree_58 2 rfl rfl ?_
    exact G_sub [0, 1, 3] rfl (J59 l4 l3 h)
  unfold fX10_degree_L21 at h
  refine G_iload (pc' := 23) C dX10_degree_21 3 rfl rfl ?_
  refine G_aload_n (pc' := 24) C dX10_degree_23 0 rfl rfl ?_
  refine G_iload_n (pc' := 25) C dX10_degree_24 1 rfl rfl ?_
  obtain ⟨q2, hq2, h⟩ := ob h
  refine G_cV0 (pc' := 28) C dX10_degree_25 (tX10_inputs κ l o r l1 q2 hq2) (wV tw_ml_X10_119 tw_im_X10_inputs tw_se_X10_X10_inputs tw_in_X10 tw_co_X10_inputs) yd_X10_inputs rfl fi_X10 (RB_rd 0 rfl) rfl rfl (by decide) rfl (Nat.le_of_ble_eq_true rfl) rfl rfl ?_
  refine G_icmp_ge (tgt := 66) (pc' := 31) C dX10_degree_28 (by decide) rfl (fun hc => ?_) (fun hc => ?_)
  · replace h := z_ip hc h
    exact G_sub [2] rfl (kx _ (Option.some.inj h).symm)
  · replace h := z_in hc h
    refine G_aload_n (pc' := 32) C dX10_degree_31 0 rfl rfl ?_
    refine G_iload_n (pc' := 33) C dX10_degree_32 1 rfl rfl ?_
    refine G_iload (pc' := 35) C dX10_degree_33 3 rfl rfl ?_
    obtain ⟨q3, hq3, h⟩ := ob h
    refine G_cV0 (pc' := 38) C dX10_degree_35 (tX10_polyOf κ l o r l1 l4 q3 hq3) (wV tw_ml_X10_225 tw_im_X10_polyOf tw_se_X10_X10_polyOf tw_in_X10 tw_co_X10_polyOf) yd_X10_polyOf rfl fi_X10 (RB_rd 0 rfl) rfl rfl (by decide) rfl (Nat.le_of_ble_eq_true rfl) rfl rfl ?_
    refine G_if_eq (tgt := 58) (pc' := 41) C dX10_degree_38 (by decide) rfl (fun hc => ?_) (fun hc => ?_)
    · replace h := z_ip hc h
      exact G_sub [0, 1, 2, 3] rfl (J58 l3 l4 h)
    · replace h := z_in hc h
      refine G_iload (pc' := 43) C dX10_degree_41 3 rfl rfl ?_
      obtain ⟨q4, hq4, h⟩ := ob h
      refine G_cS0 (pc' := 46) C dX10_degree_43 (tX10_ones κ l (RA o) (RB κ o r) l4 q4 hq4) (wS tw_ml_X10_145 tw_st_X10_ones tw_co_X10_ones tw_in_X10) yd_X10_ones rfl rfl rfl (by decide) rfl (Nat.le_of_ble_eq_true rfl) rfl rfl ?_
      refine G_iload_n (pc' := 47) C dX10_degree_46 2 rfl rfl ?_
      refine G_icmp_le (tgt := 58) (pc' := 50) C dX10_degree_47 (by decide) rfl (fun hc => ?_) (fun hc => ?_)
      · replace h := z_ip hc h
        exact G_sub [0, 1, 2, 3] rfl (J58 l3 l4 h)
      · replace h := z_in hc h
        refine G_iload (pc' := 52) C dX10_degree_50 3 rfl rfl ?_
        obtain ⟨q5, hq5, h⟩ := ob h
        refine G_cS0 (pc' := 55) C dX10_degree_52 (tX10_ones κ l (RA o) (RB κ o r) l4 q5 hq5) (wS tw_ml_X10_145 tw_st_X10_ones tw_co_X10_ones tw_in_X10) yd_X10_ones rfl rfl rfl (by decide) rfl (Nat.le_of_ble_eq_true rfl) rfl rfl ?_
        refine G_goto (tgt := 59) C dX10_degree_55 (by decide) ?_
        exact G_sub [0, 1, 3] rfl (J59 l4 q5 h)
set_option maxHeartbeats 4000000 in
set_option maxRecDepth 100000 in
theorem tX10_degree (κ : KK) (l : Launch) (o : Nat) (r : RS) (a1 : Int32) (q : Int32 × RS) (h : fX10_degree r a1 = some q) : MM κ l yX10_degree cX10_degree 5 (some .int) rmX10_degree (RA o) [.ref o, .int a1] (RB κ o r) (some (Value.int q.1)) (RB κ o q.2) := by
  refine MM.of (by decide +kernel) (Nat.le_of_ble_eq_true rfl) ?_
  intro p e s m below meth c C hnm
  unfold fX10_degree at h
  refine G_sub (lv' := [(0, .ref o), (1, .int a1)]) [0, 1] rfl ?_
  refine G_aload_n (pc' := 1) C dX10_degree_0 0 rfl rfl ?_
  refine G_iload_n (pc' := 2) C dX10_degree_1 1 rfl rfl ?_
  obtain ⟨q1, hq1, h⟩ := ob h
  refine G_cV0 (pc' := 5) C dX10_degree_2 (tX10_askTold κ l o r a1 q1 hq1) (wV tw_ml_X10_213 tw_im_X10_askTold tw_se_X10_X10_askTold tw_in_X10 tw_co_X10_askTold) yd_X10_askTold rfl fi_X10 (RB_rd 0 rfl) rfl rfl (by decide) rfl (Nat.le_of_ble_eq_true rfl) rfl rfl ?_
  refine G_istore_n (pc' := 6) C dX10_degree_5 [(2, .int q1), (0, .ref o), (1, .int a1)] (by decide) rfl rfl ?_
  refine G_iload_n (pc' := 7) C dX10_degree_6 0 rfl rfl ?_
  refine G_if_eq (tgt := 16) (pc' := 10) C dX10_degree_7 (by decide) rfl (fun hc => ?_) (fun hc => ?_)
  · replace h := z_ip hc h
    refine G_iconst (pc' := 17) (v := (0 : Int32)) C dX10_degree_16 (by decide) rfl ?_
    refine G_istore_n (pc' := 18) C dX10_degree_17 [(3, .int (0 : Int32)), (2, .int q1), (0, .ref o), (1, .int a1)] (by decide) rfl rfl ?_
    refine G_iconst (pc' := 19) (v := (0 : Int32)) C dX10_degree_18 (by decide) rfl ?_
    refine G_istore (pc' := 21) C dX10_degree_19 [(4, .int (0 : Int32)), (3, .int (0 : Int32)), (2, .int q1), (0, .ref o), (1, .int a1)] (by decide) rfl rfl ?_
    obtain ⟨e6, hle6, h⟩ := ob h
    refine G_sub (lv' := [(0, .ref o), (1, .int a1), (3, .int (0 : Int32)), (4, .int (0 : Int32))]) [3, 4, 1, 0] rfl ?_
    refine lpN_ind (body := fun u => fX10_degree_L21 r a1 u.1 u.2) (P := fun u => GR κ p l e s m ([.ref o, .int a1] : List Value).toArray below meth c rmX10_degree 5 o (some (Value.int q.1)) (RB κ o q.2) r 21 [(0, .ref o), (1, .int a1), (3, .int u.1), (4, .int u.2)] []) (X := fun w => GR κ p l e s m ([.ref o, .int a1] : List Value).toArray below meth c rmX10_degree 5 o (some (Value.int q.1)) (RB κ o q.2) r 66 [(3, .int w)] []) (fun u y hb kc kx => tX10_degree_L21 C hb kc kx) _ _ _ hle6 ?_
    refine G_iload_n (pc' := 67) C dX10_degree_66 0 rfl rfl ?_
    obtain rfl := Option.some.inj h
    exact G_iret C dX10_degree_67 (fun _ h => h)
  · replace h := z_in hc h
    refine G_aload_n (pc' := 11) C dX10_degree_10 1 rfl rfl ?_
    refine G_iload_n (pc' := 12) C dX10_degree_11 0 rfl rfl ?_
    obtain ⟨q7, hq7, h⟩ := ob h
    refine G_cV0 (pc' := 15) C dX10_degree_12 (tX10_meet κ l o r q1 q7 hq7) (wV tw_ml_X10_136 tw_im_X10_meet tw_se_X10_X10_meet tw_in_X10 tw_co_X10_meet) yd_X10_meet rfl fi_X10 (RB_rd 0 rfl) rfl rfl (by decide) rfl (Nat.le_of_ble_eq_true rfl) rfl rfl ?_
    obtain rfl := Option.some.inj h
    exact G_iret C dX10_degree_15 (fun _ h => h)
theorem dX10_signOf_0 : decode cX10_signOf 0 = .ok (.iconst 0, 1) := by decide +kernel
theorem dX10_signOf_1 : decode cX10_signOf 1 = .ok (.istore_n 3, 1) := by decide +kernel
theorem dX10_signOf_2 : decode cX10_signOf 2 = .ok (.iconst 0, 1) := by decide +kernel
theorem dX10_signOf_3 : decode cX10_signOf 3 = .ok (.istore 4, 2) := by decide +kernel
theorem dX10_signOf_5 : decode cX10_signOf 5 = .ok (.iload 4, 2) := by decide +kernel
theorem dX10_signOf_7 : decode cX10_signOf 7 = .ok (.aload_n 0, 1) := by decide +kernel
theorem dX10_signOf_8 : decode cX10_signOf 8 = .ok (.iload_n 1, 1) := by decide +kernel
theorem dX10_signOf_9 : decode cX10_signOf 9 = .ok (.invokevirtual 119, 3) := by decide +kernel
theorem dX10_signOf_12 : decode cX10_signOf 12 = .ok (.if_icmp .ge 36, 3) := by decide +kernel
theorem dX10_signOf_15 : decode cX10_signOf 15 = .ok (.iload_n 3, 1) := by decide +kernel
theorem dX10_signOf_16 : decode cX10_signOf 16 = .ok (.iload 4, 2) := by decide +kernel
theorem dX10_signOf_18 : decode cX10_signOf 18 = .ok (.iload_n 2, 1) := by decide +kernel
theorem dX10_signOf_19 : decode cX10_signOf 19 = .ok (.iand, 1) := by decide +kernel
theorem dX10_signOf_20 : decode cX10_signOf 20 = .ok (.invokestatic 145, 3) := by decide +kernel
theorem dX10_signOf_23 : decode cX10_signOf 23 = .ok (.iconst 2, 1) := by decide +kernel
theorem dX10_signOf_24 : decode cX10_signOf 24 = .ok (.irem, 1) := by decide +kernel
theorem dX10_signOf_25 : decode cX10_signOf 25 = .ok (.aload_n 0, 1) := by decide +kernel
theorem dX10_signOf_26 : decode cX10_signOf 26 = .ok (.iload_n 1, 1) := by decide +kernel
theorem dX10_signOf_27 : decode cX10_signOf 27 = .ok (.iload 4, 2) := by decide +kernel
theorem dX10_signOf_29 : decode cX10_signOf 29 = .ok (.invokevirtual 123, 3) := by decide +kernel
theorem dX10_signOf_32 : decode cX10_signOf 32 = .ok (.if_icmp .ne 7, 3) := by decide +kernel
theorem dX10_signOf_35 : decode cX10_signOf 35 = .ok (.iconst 1, 1) := by decide +kernel
theorem dX10_signOf_36 : decode cX10_signOf 36 = .ok (.goto 4, 3) := by decide +kernel
theorem dX10_signOf_39 : decode cX10_signOf 39 = .ok (.iconst (-1), 1) := by decide +kernel
theorem dX10_signOf_40 : decode cX10_signOf 40 = .ok (.iadd, 1) := by decide +kernel
theorem dX10_signOf_41 : decode cX10_signOf 41 = .ok (.istore_n 3, 1) := by decide +kernel
theorem dX10_signOf_42 : decode cX10_signOf 42 = .ok (.iinc 4 1, 3) := by decide +kernel
theorem dX10_signOf_45 : decode cX10_signOf 45 = .ok (.goto (-40), 3) := by decide +kernel
theorem dX10_signOf_48 : decode cX10_signOf 48 = .ok (.iload_n 3, 1) := by decide +kernel
theorem dX10_signOf_49 : decode cX10_signOf 49 = .ok (.ireturn, 1) := by decide +kernel
abbrev rmX10_signOf : Room := { frames := 1, cells := 0, slots := 0, locals := 22 }
theorem yd_X10_signOf : yX10_signOf.cls = RX10 ∧ yX10_signOf.cls ≠ "java/lang/invoke/MethodHandle" ∧ yX10_signOf.cls ≠ "java/lang/invoke/VarHandle" ∧ (parseMethodDescriptor yX10_signOf.desc).map (fun d => d.parameters.length) = some 2 := by decide +kernel
def fX10_signOf_L5_J40 (r : RS) (l1 : Int32) (l2 : Int32) (l4 : Int32) (s0 : Int32) (s1 : Int32) : Option ((Int32 × Int32) ⊕ Int32) :=
  some (.inl ((s1 + s0), (l4 + (1 : Int32))))
def fX10_signOf_L5 (r : RS) (l1 : Int32) (l2 : Int32) (l3 : Int32) (l4 : Int32) : Option ((Int32 × Int32) ⊕ Int32) :=
  (fX10_inputs r l1).bind fun q1 =>
  if q1 ≤ l4 then
    some (.inr l3)
  else
    (fX10_ones (l4 &&& l2)).bind fun q2 =>
    (fX10_say0 r l1 l4).bind fun q3 =>
    if (q2 - q2 / (2 : Int32) * (2 : Int32)) = q3 then
      fX10_signOf_L5_J40 r l1 l2 l4 (1 : Int32) l3
    else
      fX10_signOf_L5_J40 r l1 l2 l4 (-1 : Int32) l3
def fX10_signOf (r : RS) (a1 : Int32) (a2 : Int32) : Option (Int32) :=
  (lpN (fun u => fX10_signOf_L5 r a1 a2 u.1 u.2) bigN ((0 : Int32), (0 : Int32))).bind fun e4 =>
  some e4
set_option maxHeartbeats 4000000 in
set_option maxRecDepth 100000 in
theorem tX10_signOf_L5 {κ : KK} {p : Program} {l : Launch} {e : Env} {s : State} {m : MethodId} {args : Array Value} {below : List Frame} {meth : Method} {c : Code} (C : Cx κ p s m args meth c cX10_signOf 5 RX10 (some .int)) {o : Nat} {v : Option Value} {B' : Heap → Prop} {r : RS} {l1 : Int32} {l2 : Int32} {l3 : Int32} {l4 : Int32} {y : (Int32 × Int32) ⊕ Int32} (h : fX10_signOf_L5 r l1 l2 l3 l4 = some y) (kc : ∀ u, y = .inl u → GR κ p l e s m args below meth c rmX10_signOf 5 o v B' r 5 [(0, .ref o), (1, .int l1), (2, .int l2), (3, .int u.1), (4, .int u.2)] []) (kx : ∀ w, y = .inr w → GR κ p l e s m args below meth c rmX10_signOf 5 o v B' r 48 [(3, .int w)] []) : GR κ p l e s m args below meth c rmX10_signOf 5 o v B' r 5 [(0, .ref o), (1, .int l1), (2, .int l2), (3, .int l3), (4, .int l4)] [] := by
  have J40 : ∀ (l4 : Int32) (s0 : Int32) (s1 : Int32), fX10_signOf_L5_J40 r l1 l2 l4 s0 s1 = some y → GR κ p l e s m args below meth c rmX10_signOf 5 o v B' r 40 [(0, .ref o), (1, .int l1), (2, .int l2), (4, .int l4)] [.int s0, .int s1] := by
    intro l4 s0 s1 h
    unfold fX10_signOf_L5_J40 at h
    refine G_iadd (pc' := 41) C dX10_signOf_40 rfl ?_
    refine G_istore_n (pc' := 42) C dX10_signOf_41 [(3, .int (s1 + s0)), (0, .ref o), (1, .int l1), (2, .int l2), (4, .int l4)] (by decide) rfl rfl ?_
    refine G_iinc (pc' := 45) C dX10_signOf_42 4 rfl rfl [(4, .int (l4 + (1 : Int32))), (3, .int (s1 + s0)), (0, .ref o), (1, .int l1), (2, .int l2)] (by decide) rfl rfl ?_
    refine G_goto (tgt := 5) C dX10_signOf_45 (by decide) ?_
    exact G_sub [2, 3, 4, 1, 0] rfl (kc _ (Option.some.inj h).symm)
  unfold fX10_signOf_L5 at h
  refine G_iload (pc' := 7) C dX10_signOf_5 4 rfl rfl ?_
  refine G_aload_n (pc' := 8) C dX10_signOf_7 0 rfl rfl ?_
  refine G_iload_n (pc' := 9) C dX10_signOf_8 1 rfl rfl ?_
  obtain ⟨q1, hq1, h⟩ := ob h
  refine G_cV0 (pc' := 12) C dX10_signOf_9 (tX10_inputs κ l o r l1 q1 hq1) (wV tw_ml_X10_119 tw_im_X10_inputs tw_se_X10_X10_inputs tw_in_X10 tw_co_X10_inputs) yd_X10_inputs rfl fi_X10 (RB_rd 0 rfl) rfl rfl (by decide) rfl (Nat.le_of_ble_eq_true rfl) rfl rfl ?_
  refine G_icmp_ge (tgt := 48) (pc' := 15) C dX10_signOf_12 (by decide) rfl (fun hc => ?_) (fun hc => ?_)
  · replace h := z_ip hc h
    exact G_sub [3] rfl (kx _ (Option.some.inj h).symm)
  · replace h := z_in hc h
    refine G_iload_n (pc' := 16) C dX10_signOf_15 3 rfl rfl ?_
    refine G_iload (pc' := 18) C dX10_signOf_16 4 rfl rfl ?_
    refine G_iload_n (pc' := 19) C dX10_signOf_18 2 rfl rfl ?_
    refine G_iand (pc' := 20) C dX10_signOf_19 rfl ?_
    obtain ⟨q2, hq2, h⟩ := ob h
    refine G_cS0 (pc' := 23) C dX10_signOf_20 (tX10_ones κ l (RA o) (RB κ o r) (l4 &&& l2) q2 hq2) (wS tw_ml_X10_145 tw_st_X10_ones tw_co_X10_ones tw_in_X10) yd_X10_ones rfl rfl rfl (by decide) rfl (Nat.le_of_ble_eq_true rfl) rfl rfl ?_
    refine G_iconst (pc' := 24) (v := (2 : Int32)) C dX10_signOf_23 (by decide) rfl ?_
    refine G_irem (pc' := 25) C dX10_signOf_24 (by decide) rfl ?_
    refine G_aload_n (pc' := 26) C dX10_signOf_25 0 rfl rfl ?_
    refine G_iload_n (pc' := 27) C dX10_signOf_26 1 rfl rfl ?_
    refine G_iload (pc' := 29) C dX10_signOf_27 4 rfl rfl ?_
    obtain ⟨q3, hq3, h⟩ := ob h
    refine G_cV0 (pc' := 32) C dX10_signOf_29 (tX10_say0 κ l o r l1 l4 q3 hq3) (wV tw_ml_X10_123 tw_im_X10_say0 tw_se_X10_X10_say0 tw_in_X10 tw_co_X10_say0) yd_X10_say0 rfl fi_X10 (RB_rd 0 rfl) rfl rfl (by decide) rfl (Nat.le_of_ble_eq_true rfl) rfl rfl ?_
    refine G_icmp_ne (tgt := 39) (pc' := 35) C dX10_signOf_32 (by decide) rfl (fun hc => ?_) (fun hc => ?_)
    · replace h := z_in hc h
      refine G_iconst (pc' := 40) (v := (-1 : Int32)) C dX10_signOf_39 (by decide) rfl ?_
      exact G_sub [0, 1, 2, 4] rfl (J40 l4 (-1 : Int32) l3 h)
    · replace h := z_ip hc h
      refine G_iconst (pc' := 36) (v := (1 : Int32)) C dX10_signOf_35 (by decide) rfl ?_
      refine G_goto (tgt := 40) C dX10_signOf_36 (by decide) ?_
      exact G_sub [0, 1, 2, 4] rfl (J40 l4 (1 : Int32) l3 h)
set_option maxHeartbeats 4000000 in
set_option maxRecDepth 100000 in
theorem tX10_signOf (κ : KK) (l : Launch) (o : Nat) (r : RS) (a1 : Int32) (a2 : Int32) (q : Int32) (h : fX10_signOf r a1 a2 = some q) : MM κ l yX10_signOf cX10_signOf 5 (some .int) rmX10_signOf (RA o) [.ref o, .int a1, .int a2] (RB κ o r) (some (Value.int q)) (RB κ o r) := by
  refine MM.of (by decide +kernel) (Nat.le_of_ble_eq_true rfl) ?_
  intro p e s m below meth c C hnm
  unfold fX10_signOf at h
  refine G_sub (lv' := [(0, .ref o), (1, .int a1), (2, .int a2)]) [0, 1, 2] rfl ?_
  refine G_iconst (pc' := 1) (v := (0 : Int32)) C dX10_signOf_0 (by decide) rfl ?_
  refine G_istore_n (pc' := 2) C dX10_signOf_1 [(3, .int (0 : Int32)), (0, .ref o), (1, .int a1), (2, .int a2)] (by decide) rfl rfl ?_
  refine G_iconst (pc' := 3) (v := (0 : Int32)) C dX10_signOf_2 (by decide) rfl ?_
  refine G_istore (pc' := 5) C dX10_signOf_3 [(4, .int (0 : Int32)), (3, .int (0 : Int32)), (0, .ref o), (1, .int a1), (2, .int a2)] (by decide) rfl rfl ?_
  obtain ⟨e4, hle4, h⟩ := ob h
  refine G_sub (lv' := [(0, .ref o), (1, .int a1), (2, .int a2), (3, .int (0 : Int32)), (4, .int (0 : Int32))]) [2, 3, 4, 1, 0] rfl ?_
  refine lpN_ind (body := fun u => fX10_signOf_L5 r a1 a2 u.1 u.2) (P := fun u => GR κ p l e s m ([.ref o, .int a1, .int a2] : List Value).toArray below meth c rmX10_signOf 5 o (some (Value.int q)) (RB κ o r) r 5 [(0, .ref o), (1, .int a1), (2, .int a2), (3, .int u.1), (4, .int u.2)] []) (X := fun w => GR κ p l e s m ([.ref o, .int a1, .int a2] : List Value).toArray below meth c rmX10_signOf 5 o (some (Value.int q)) (RB κ o r) r 48 [(3, .int w)] []) (fun u y hb kc kx => tX10_signOf_L5 C hb kc kx) _ _ _ hle4 ?_
  refine G_iload_n (pc' := 49) C dX10_signOf_48 0 rfl rfl ?_
  obtain rfl := Option.some.inj h
  exact G_iret C dX10_signOf_49 (fun _ h => h)
theorem dX10_sign_0 : decode cX10_sign 0 = .ok (.iload_n 1, 1) := by decide +kernel
theorem dX10_sign_1 : decode cX10_sign 1 = .ok (.invokestatic 115, 3) := by decide +kernel
theorem dX10_sign_4 : decode cX10_sign 4 = .ok (.ifCond .ne 5, 3) := by decide +kernel
theorem dX10_sign_7 : decode cX10_sign 7 = .ok (.iconst 0, 1) := by decide +kernel
theorem dX10_sign_8 : decode cX10_sign 8 = .ok (.ireturn, 1) := by decide +kernel
theorem dX10_sign_9 : decode cX10_sign 9 = .ok (.aload_n 0, 1) := by decide +kernel
theorem dX10_sign_10 : decode cX10_sign 10 = .ok (.iload_n 1, 1) := by decide +kernel
theorem dX10_sign_11 : decode cX10_sign 11 = .ok (.invokevirtual 213, 3) := by decide +kernel
theorem dX10_sign_14 : decode cX10_sign 14 = .ok (.istore_n 3, 1) := by decide +kernel
theorem dX10_sign_15 : decode cX10_sign 15 = .ok (.iload_n 3, 1) := by decide +kernel
theorem dX10_sign_16 : decode cX10_sign 16 = .ok (.ifCond .eq 11, 3) := by decide +kernel
theorem dX10_sign_19 : decode cX10_sign 19 = .ok (.aload_n 0, 1) := by decide +kernel
theorem dX10_sign_20 : decode cX10_sign 20 = .ok (.iload_n 3, 1) := by decide +kernel
theorem dX10_sign_21 : decode cX10_sign 21 = .ok (.invokevirtual 136, 3) := by decide +kernel
theorem dX10_sign_24 : decode cX10_sign 24 = .ok (.istore_n 3, 1) := by decide +kernel
theorem dX10_sign_25 : decode cX10_sign 25 = .ok (.iconst 0, 1) := by decide +kernel
theorem dX10_sign_26 : decode cX10_sign 26 = .ok (.ireturn, 1) := by decide +kernel
theorem dX10_sign_27 : decode cX10_sign 27 = .ok (.iload_n 2, 1) := by decide +kernel
theorem dX10_sign_28 : decode cX10_sign 28 = .ok (.ifCond .lt 12, 3) := by decide +kernel
theorem dX10_sign_31 : decode cX10_sign 31 = .ok (.iload_n 2, 1) := by decide +kernel
theorem dX10_sign_32 : decode cX10_sign 32 = .ok (.aload_n 0, 1) := by decide +kernel
theorem dX10_sign_33 : decode cX10_sign 33 = .ok (.iload_n 1, 1) := by decide +kernel
theorem dX10_sign_34 : decode cX10_sign 34 = .ok (.invokevirtual 119, 3) := by decide +kernel
theorem dX10_sign_37 : decode cX10_sign 37 = .ok (.if_icmp .lt 7, 3) := by decide +kernel
theorem dX10_sign_40 : decode cX10_sign 40 = .ok (.iconst 0, 1) := by decide +kernel
theorem dX10_sign_41 : decode cX10_sign 41 = .ok (.goto 9, 3) := by decide +kernel
theorem dX10_sign_44 : decode cX10_sign 44 = .ok (.aload_n 0, 1) := by decide +kernel
theorem dX10_sign_45 : decode cX10_sign 45 = .ok (.iload_n 1, 1) := by decide +kernel
theorem dX10_sign_46 : decode cX10_sign 46 = .ok (.iload_n 2, 1) := by decide +kernel
theorem dX10_sign_47 : decode cX10_sign 47 = .ok (.invokevirtual 228, 3) := by decide +kernel
theorem dX10_sign_50 : decode cX10_sign 50 = .ok (.ireturn, 1) := by decide +kernel
abbrev rmX10_sign : Room := { frames := 3, cells := 0, slots := 0, locals := 67 }
theorem yd_X10_sign : yX10_sign.cls = RX10 ∧ yX10_sign.cls ≠ "java/lang/invoke/MethodHandle" ∧ yX10_sign.cls ≠ "java/lang/invoke/VarHandle" ∧ (parseMethodDescriptor yX10_sign.desc).map (fun d => d.parameters.length) = some 2 := by decide +kernel
def fX10_sign_J40 (r : RS) : Option (Int32 × RS) :=
  some ((0 : Int32), r)
def fX10_sign (r : RS) (a1 : Int32) (a2 : Int32) : Option (Int32 × RS) :=
  (fX10_isPlace a1).bind fun q1 =>
  if q1 = 0 then
    some ((0 : Int32), r)
  else
    (fX10_askTold r a1).bind fun q2 =>
    if q2 = 0 then
      if a2 < 0 then
        fX10_sign_J40 r
      else
        (fX10_inputs r a1).bind fun q3 =>
        if a2 < q3 then
          (fX10_signOf r a1 a2).bind fun q4 =>
          some (q4, r)
        else
          fX10_sign_J40 r
    else
      (fX10_meet r q2).bind fun q5 =>
      some ((0 : Int32), q5.2)
set_option maxHeartbeats 4000000 in
set_option maxRecDepth 100000 in
theorem tX10_sign (κ : KK) (l : Launch) (o : Nat) (r : RS) (a1 : Int32) (a2 : Int32) (q : Int32 × RS) (h : fX10_sign r a1 a2 = some q) : MM κ l yX10_sign cX10_sign 4 (some .int) rmX10_sign (RA o) [.ref o, .int a1, .int a2] (RB κ o r) (some (Value.int q.1)) (RB κ o q.2) := by
  refine MM.of (by decide +kernel) (Nat.le_of_ble_eq_true rfl) ?_
  intro p e s m below meth c C hnm
  have J40 : ∀ (r : RS), fX10_sign_J40 r = some q → GR κ p l e s m ([.ref o, .int a1, .int a2] : List Value).toArray below meth c rmX10_sign 4 o (some (Value.int q.1)) (RB κ o q.2) r 40 [] [] := by
    intro r h
    unfold fX10_sign_J40 at h
    refine G_iconst (pc' := 41) (v := (0 : Int32)) C dX10_sign_40 (by decide) rfl ?_
    refine G_goto (tgt := 50) C dX10_sign_41 (by decide) ?_
    obtain rfl := Option.some.inj h
    exact G_iret C dX10_sign_50 (fun _ h => h)
  unfold fX10_sign at h
  refine G_sub (lv' := [(0, .ref o), (1, .int a1), (2, .int a2)]) [0, 1, 2] rfl ?_
  refine G_iload_n (pc' := 1) C dX10_sign_0 1 rfl rfl ?_
  obtain ⟨q1, hq1, h⟩ := ob h
  refine G_cS0 (pc' := 4) C dX10_sign_1 (tX10_isPlace κ l (RA o) (RB κ o r) a1 q1 hq1) (wS tw_ml_X10_115 tw_st_X10_isPlace tw_co_X10_isPlace tw_in_X10) yd_X10_isPlace rfl rfl rfl (by decide) rfl (Nat.le_of_ble_eq_true rfl) rfl rfl ?_
  refine G_if_ne (tgt := 9) (pc' := 7) C dX10_sign_4 (by decide) rfl (fun hc => ?_) (fun hc => ?_)
  · replace h := z_in hc h
    refine G_aload_n (pc' := 10) C dX10_sign_9 0 rfl rfl ?_
    refine G_iload_n (pc' := 11) C dX10_sign_10 1 rfl rfl ?_
    obtain ⟨q2, hq2, h⟩ := ob h
    refine G_cV0 (pc' := 14) C dX10_sign_11 (tX10_askTold κ l o r a1 q2 hq2) (wV tw_ml_X10_213 tw_im_X10_askTold tw_se_X10_X10_askTold tw_in_X10 tw_co_X10_askTold) yd_X10_askTold rfl fi_X10 (RB_rd 0 rfl) rfl rfl (by decide) rfl (Nat.le_of_ble_eq_true rfl) rfl rfl ?_
    refine G_istore_n (pc' := 15) C dX10_sign_14 [(3, .int q2), (0, .ref o), (1, .int a1), (2, .int a2)] (by decide) rfl rfl ?_
    refine G_iload_n (pc' := 16) C dX10_sign_15 0 rfl rfl ?_
    refine G_if_eq (tgt := 27) (pc' := 19) C dX10_sign_16 (by decide) rfl (fun hc => ?_) (fun hc => ?_)
    · replace h := z_ip hc h
      refine G_iload_n (pc' := 28) C dX10_sign_27 3 rfl rfl ?_
      refine G_if_lt (tgt := 40) (pc' := 31) C dX10_sign_28 (by decide) rfl (fun hc => ?_) (fun hc => ?_)
      · replace h := z_ip hc h
        exact G_sub [] rfl (J40 r h)
      · replace h := z_in hc h
        refine G_iload_n (pc' := 32) C dX10_sign_31 3 rfl rfl ?_
        refine G_aload_n (pc' := 33) C dX10_sign_32 1 rfl rfl ?_
        refine G_iload_n (pc' := 34) C dX10_sign_33 2 rfl rfl ?_
        obtain ⟨q3, hq3, h⟩ := ob h
        refine G_cV0 (pc' := 37) C dX10_sign_34 (tX10_inputs κ l o r a1 q3 hq3) (wV tw_ml_X10_119 tw_im_X10_inputs tw_se_X10_X10_inputs tw_in_X10 tw_co_X10_inputs) yd_X10_inputs rfl fi_X10 (RB_rd 0 rfl) rfl rfl (by decide) rfl (Nat.le_of_ble_eq_true rfl) rfl rfl ?_
        refine G_icmp_lt (tgt := 44) (pc' := 40) C dX10_sign_37 (by decide) rfl (fun hc => ?_) (fun hc => ?_)
        · replace h := z_ip hc h
          refine G_aload_n (pc' := 45) C dX10_sign_44 1 rfl rfl ?_
          refine G_iload_n (pc' := 46) C dX10_sign_45 2 rfl rfl ?_
          refine G_iload_n (pc' := 47) C dX10_sign_46 3 rfl rfl ?_
          obtain ⟨q4, hq4, h⟩ := ob h
          refine G_cV0 (pc' := 50) C dX10_sign_47 (tX10_signOf κ l o r a1 a2 q4 hq4) (wV tw_ml_X10_228 tw_im_X10_signOf tw_se_X10_X10_signOf tw_in_X10 tw_co_X10_signOf) yd_X10_signOf rfl fi_X10 (RB_rd 0 rfl) rfl rfl (by decide) rfl (Nat.le_of_ble_eq_true rfl) rfl rfl ?_
          obtain rfl := Option.some.inj h
          exact G_iret C dX10_sign_50 (fun _ h => h)
        · replace h := z_in hc h
          exact G_sub [] rfl (J40 r h)
    · replace h := z_in hc h
      refine G_aload_n (pc' := 20) C dX10_sign_19 1 rfl rfl ?_
      refine G_iload_n (pc' := 21) C dX10_sign_20 0 rfl rfl ?_
      obtain ⟨q5, hq5, h⟩ := ob h
      refine G_cV0 (pc' := 24) C dX10_sign_21 (tX10_meet κ l o r q2 q5 hq5) (wV tw_ml_X10_136 tw_im_X10_meet tw_se_X10_X10_meet tw_in_X10 tw_co_X10_meet) yd_X10_meet rfl fi_X10 (RB_rd 0 rfl) rfl rfl (by decide) rfl (Nat.le_of_ble_eq_true rfl) rfl rfl ?_
      refine G_istore_n (pc' := 25) C dX10_sign_24 [(3, .int q5.1), (0, .ref o), (1, .int a1), (2, .int a2)] (by decide) rfl rfl ?_
      refine G_iconst (pc' := 26) (v := (0 : Int32)) C dX10_sign_25 (by decide) rfl ?_
      obtain rfl := Option.some.inj h
      exact G_iret C dX10_sign_26 (fun _ h => h)
  · replace h := z_ip hc h
    refine G_iconst (pc' := 8) (v := (0 : Int32)) C dX10_sign_7 (by decide) rfl ?_
    obtain rfl := Option.some.inj h
    exact G_iret C dX10_sign_8 (fun _ h => h)
theorem dX10_energy_0 : decode cX10_energy 0 = .ok (.aload_n 0, 1) := by decide +kernel
theorem dX10_energy_1 : decode cX10_energy 1 = .ok (.iload_n 1, 1) := by decide +kernel
theorem dX10_energy_2 : decode cX10_energy 2 = .ok (.invokevirtual 213, 3) := by decide +kernel
theorem dX10_energy_5 : decode cX10_energy 5 = .ok (.istore_n 3, 1) := by decide +kernel
theorem dX10_energy_6 : decode cX10_energy 6 = .ok (.iload_n 3, 1) := by decide +kernel
theorem dX10_energy_7 : decode cX10_energy 7 = .ok (.ifCond .eq 9, 3) := by decide +kernel
theorem dX10_energy_10 : decode cX10_energy 10 = .ok (.aload_n 0, 1) := by decide +kernel
theorem dX10_energy_11 : decode cX10_energy 11 = .ok (.iload_n 3, 1) := by decide +kernel
theorem dX10_energy_12 : decode cX10_energy 12 = .ok (.invokevirtual 136, 3) := by decide +kernel
theorem dX10_energy_15 : decode cX10_energy 15 = .ok (.ireturn, 1) := by decide +kernel
theorem dX10_energy_16 : decode cX10_energy 16 = .ok (.iload_n 2, 1) := by decide +kernel
theorem dX10_energy_17 : decode cX10_energy 17 = .ok (.ifCond .lt 9, 3) := by decide +kernel
theorem dX10_energy_20 : decode cX10_energy 20 = .ok (.iload_n 2, 1) := by decide +kernel
theorem dX10_energy_21 : decode cX10_energy 21 = .ok (.bipush 8, 2) := by decide +kernel
theorem dX10_energy_23 : decode cX10_energy 23 = .ok (.if_icmp .le 6, 3) := by decide +kernel
theorem dX10_energy_26 : decode cX10_energy 26 = .ok (.bipush (-2), 2) := by decide +kernel
theorem dX10_energy_28 : decode cX10_energy 28 = .ok (.ireturn, 1) := by decide +kernel
theorem dX10_energy_29 : decode cX10_energy 29 = .ok (.iconst 0, 1) := by decide +kernel
theorem dX10_energy_30 : decode cX10_energy 30 = .ok (.istore 4, 2) := by decide +kernel
theorem dX10_energy_32 : decode cX10_energy 32 = .ok (.iconst 0, 1) := by decide +kernel
theorem dX10_energy_33 : decode cX10_energy 33 = .ok (.istore 5, 2) := by decide +kernel
theorem dX10_energy_35 : decode cX10_energy 35 = .ok (.iload 5, 2) := by decide +kernel
theorem dX10_energy_37 : decode cX10_energy 37 = .ok (.aload_n 0, 1) := by decide +kernel
theorem dX10_energy_38 : decode cX10_energy 38 = .ok (.iload_n 1, 1) := by decide +kernel
theorem dX10_energy_39 : decode cX10_energy 39 = .ok (.invokevirtual 119, 3) := by decide +kernel
theorem dX10_energy_42 : decode cX10_energy 42 = .ok (.if_icmp .ge 42, 3) := by decide +kernel
theorem dX10_energy_45 : decode cX10_energy 45 = .ok (.iload 4, 2) := by decide +kernel
theorem dX10_energy_47 : decode cX10_energy 47 = .ok (.iload 5, 2) := by decide +kernel
theorem dX10_energy_49 : decode cX10_energy 49 = .ok (.invokestatic 145, 3) := by decide +kernel
theorem dX10_energy_52 : decode cX10_energy 52 = .ok (.iload_n 2, 1) := by decide +kernel
theorem dX10_energy_53 : decode cX10_energy 53 = .ok (.if_icmp .ne 21, 3) := by decide +kernel
theorem dX10_energy_56 : decode cX10_energy 56 = .ok (.aload_n 0, 1) := by decide +kernel
theorem dX10_energy_57 : decode cX10_energy 57 = .ok (.iload_n 1, 1) := by decide +kernel
theorem dX10_energy_58 : decode cX10_energy 58 = .ok (.iload 5, 2) := by decide +kernel
theorem dX10_energy_60 : decode cX10_energy 60 = .ok (.invokevirtual 228, 3) := by decide +kernel
theorem dX10_energy_63 : decode cX10_energy 63 = .ok (.aload_n 0, 1) := by decide +kernel
theorem dX10_energy_64 : decode cX10_energy 64 = .ok (.iload_n 1, 1) := by decide +kernel
theorem dX10_energy_65 : decode cX10_energy 65 = .ok (.iload 5, 2) := by decide +kernel
theorem dX10_energy_67 : decode cX10_energy 67 = .ok (.invokevirtual 228, 3) := by decide +kernel
theorem dX10_energy_70 : decode cX10_energy 70 = .ok (.imul, 1) := by decide +kernel
theorem dX10_energy_71 : decode cX10_energy 71 = .ok (.goto 4, 3) := by decide +kernel
theorem dX10_energy_74 : decode cX10_energy 74 = .ok (.iconst 0, 1) := by decide +kernel
theorem dX10_energy_75 : decode cX10_energy 75 = .ok (.iadd, 1) := by decide +kernel
theorem dX10_energy_76 : decode cX10_energy 76 = .ok (.istore 4, 2) := by decide +kernel
theorem dX10_energy_78 : decode cX10_energy 78 = .ok (.iinc 5 1, 3) := by decide +kernel
theorem dX10_energy_81 : decode cX10_energy 81 = .ok (.goto (-46), 3) := by decide +kernel
theorem dX10_energy_84 : decode cX10_energy 84 = .ok (.iload 4, 2) := by decide +kernel
theorem dX10_energy_86 : decode cX10_energy 86 = .ok (.ireturn, 1) := by decide +kernel
abbrev rmX10_energy : Room := { frames := 3, cells := 0, slots := 0, locals := 67 }
theorem yd_X10_energy : yX10_energy.cls = RX10 ∧ yX10_energy.cls ≠ "java/lang/invoke/MethodHandle" ∧ yX10_energy.cls ≠ "java/lang/invoke/VarHandle" ∧ (parseMethodDescriptor yX10_energy.desc).map (fun d => d.parameters.length) = some 2 := by decide +kernel
def fX10_energy_L35_J75 (r : RS) (l1 : Int32) (l2 : Int32) (l5 : Int32) (s0 : Int32) (s1 : Int32) : Option ((Int32 × Int32) ⊕ Int32) :=
  some (.inl ((s1 + s0), (l5 + (1 : Int32))))
def fX10_energy_L35 (r : RS) (l1 : Int32) (l2 : Int32) (l4 : Int32) (l5 : Int32) : Option ((Int32 × Int32) ⊕ Int32) :=
  (fX10_inputs r l1).bind fun q2 =>
  if q2 ≤ l5 then
    some (.inr l4)
  else
    (fX10_ones l5).bind fun q3 =>
    if q3 = l2 then
      (fX10_signOf r l1 l5).bind fun q4 =>
      (fX10_signOf r l1 l5).bind fun q5 =>
      fX10_energy_L35_J75 r l1 l2 l5 (q4 * q5) l4
    else
      fX10_energy_L35_J75 r l1 l2 l5 (0 : Int32) l4
def fX10_energy_J26 (r : RS) : Option (Int32 × RS) :=
  some ((-2 : Int32), r)
def fX10_energy (r : RS) (a1 : Int32) (a2 : Int32) : Option (Int32 × RS) :=
  (fX10_askTold r a1).bind fun q1 =>
  if q1 = 0 then
    if a2 < 0 then
      fX10_energy_J26 r
    else
      if a2 ≤ (8 : Int32) then
        (lpN (fun u => fX10_energy_L35 r a1 a2 u.1 u.2) bigN ((0 : Int32), (0 : Int32))).bind fun e6 =>
        some (e6, r)
      else
        fX10_energy_J26 r
  else
    (fX10_meet r q1).bind fun q7 =>
    some (q7.1, q7.2)
set_option maxHeartbeats 4000000 in
set_option maxRecDepth 100000 in
theorem tX10_energy_L35 {κ : KK} {p : Program} {l : Launch} {e : Env} {s : State} {m : MethodId} {args : Array Value} {below : List Frame} {meth : Method} {c : Code} (C : Cx κ p s m args meth c cX10_energy 6 RX10 (some .int)) {o : Nat} {v : Option Value} {B' : Heap → Prop} {r : RS} {l1 : Int32} {l2 : Int32} {l4 : Int32} {l5 : Int32} {y : (Int32 × Int32) ⊕ Int32} (h : fX10_energy_L35 r l1 l2 l4 l5 = some y) (kc : ∀ u, y = .inl u → GR κ p l e s m args below meth c rmX10_energy 6 o v B' r 35 [(0, .ref o), (1, .int l1), (2, .int l2), (4, .int u.1), (5, .int u.2)] []) (kx : ∀ w, y = .inr w → GR κ p l e s m args below meth c rmX10_energy 6 o v B' r 84 [(4, .int w)] []) : GR κ p l e s m args below meth c rmX10_energy 6 o v B' r 35 [(0, .ref o), (1, .int l1), (2, .int l2), (4, .int l4), (5, .int l5)] [] := by
  have J75 : ∀ (l5 : Int32) (s0 : Int32) (s1 : Int32), fX10_energy_L35_J75 r l1 l2 l5 s0 s1 = some y → GR κ p l e s m args below meth c rmX10_energy 6 o v B' r 75 [(0, .ref o), (1, .int l1), (2, .int l2), (5, .int l5)] [.int s0, .int s1] := by
    intro l5 s0 s1 h
    unfold fX10_energy_L35_J75 at h
    refine G_iadd (pc' := 76) C dX10_energy_75 rfl ?_
    refine G_istore (pc' := 78) C dX10_energy_76 [(4, .int (s1 + s0)), (0, .ref o), (1, .int l1), (2, .int l2), (5, .int l5)] (by decide) rfl rfl ?_
    refine G_iinc (pc' := 81) C dX10_energy_78 4 rfl rfl [(5, .int (l5 + (1 : Int32))), (4, .int (s1 + s0)), (0, .ref o), (1, .int l1), (2, .int l2)] (by decide) rfl rfl ?_
    refine G_goto (tgt := 35) C dX10_energy_81 (by decide) ?_
    exact G_sub [2, 3, 4, 1, 0] rfl (kc _ (Option.some.inj h).symm)
  unfold fX10_energy_L35 at h
  refine G_iload (pc' := 37) C dX10_energy_35 4 rfl rfl ?_
  refine G_aload_n (pc' := 38) C dX10_energy_37 0 rfl rfl ?_
  refine G_iload_n (pc' := 39) C dX10_energy_38 1 rfl rfl ?_
  obtain ⟨q2, hq2, h⟩ := ob h
  refine G_cV0 (pc' := 42) C dX10_energy_39 (tX10_inputs κ l o r l1 q2 hq2) (wV tw_ml_X10_119 tw_im_X10_inputs tw_se_X10_X10_inputs tw_in_X10 tw_co_X10_inputs) yd_X10_inputs rfl fi_X10 (RB_rd 0 rfl) rfl rfl (by decide) rfl (Nat.le_of_ble_eq_true rfl) rfl rfl ?_
  refine G_icmp_ge (tgt := 84) (pc' := 45) C dX10_energy_42 (by decide) rfl (fun hc => ?_) (fun hc => ?_)
  · replace h := z_ip hc h
    exact G_sub [3] rfl (kx _ (Option.some.inj h).symm)
  · replace h := z_in hc h
    refine G_iload (pc' := 47) C dX10_energy_45 3 rfl rfl ?_
    refine G_iload (pc' := 49) C dX10_energy_47 4 rfl rfl ?_
    obtain ⟨q3, hq3, h⟩ := ob h
    refine G_cS0 (pc' := 52) C dX10_energy_49 (tX10_ones κ l (RA o) (RB κ o r) l5 q3 hq3) (wS tw_ml_X10_145 tw_st_X10_ones tw_co_X10_ones tw_in_X10) yd_X10_ones rfl rfl rfl (by decide) rfl (Nat.le_of_ble_eq_true rfl) rfl rfl ?_
    refine G_iload_n (pc' := 53) C dX10_energy_52 2 rfl rfl ?_
    refine G_icmp_ne (tgt := 74) (pc' := 56) C dX10_energy_53 (by decide) rfl (fun hc => ?_) (fun hc => ?_)
    · replace h := z_in hc h
      refine G_iconst (pc' := 75) (v := (0 : Int32)) C dX10_energy_74 (by decide) rfl ?_
      exact G_sub [0, 1, 2, 4] rfl (J75 l5 (0 : Int32) l4 h)
    · replace h := z_ip hc h
      refine G_aload_n (pc' := 57) C dX10_energy_56 0 rfl rfl ?_
      refine G_iload_n (pc' := 58) C dX10_energy_57 1 rfl rfl ?_
      refine G_iload (pc' := 60) C dX10_energy_58 4 rfl rfl ?_
      obtain ⟨q4, hq4, h⟩ := ob h
      refine G_cV0 (pc' := 63) C dX10_energy_60 (tX10_signOf κ l o r l1 l5 q4 hq4) (wV tw_ml_X10_228 tw_im_X10_signOf tw_se_X10_X10_signOf tw_in_X10 tw_co_X10_signOf) yd_X10_signOf rfl fi_X10 (RB_rd 0 rfl) rfl rfl (by decide) rfl (Nat.le_of_ble_eq_true rfl) rfl rfl ?_
      refine G_aload_n (pc' := 64) C dX10_energy_63 0 rfl rfl ?_
      refine G_iload_n (pc' := 65) C dX10_energy_64 1 rfl rfl ?_
      refine G_iload (pc' := 67) C dX10_energy_65 4 rfl rfl ?_
      obtain ⟨q5, hq5, h⟩ := ob h
      refine G_cV0 (pc' := 70) C dX10_energy_67 (tX10_signOf κ l o r l1 l5 q5 hq5) (wV tw_ml_X10_228 tw_im_X10_signOf tw_se_X10_X10_signOf tw_in_X10 tw_co_X10_signOf) yd_X10_signOf rfl fi_X10 (RB_rd 0 rfl) rfl rfl (by decide) rfl (Nat.le_of_ble_eq_true rfl) rfl rfl ?_
      refine G_imul (pc' := 71) C dX10_energy_70 rfl ?_
      refine G_goto (tgt := 75) C dX10_energy_71 (by decide) ?_
      exact G_sub [0, 1, 2, 4] rfl (J75 l5 (q4 * q5) l4 h)
set_option maxHeartbeats 4000000 in
set_option maxRecDepth 100000 in
theorem tX10_energy (κ : KK) (l : Launch) (o : Nat) (r : RS) (a1 : Int32) (a2 : Int32) (q : Int32 × RS) (h : fX10_energy r a1 a2 = some q) : MM κ l yX10_energy cX10_energy 6 (some .int) rmX10_energy (RA o) [.ref o, .int a1, .int a2] (RB κ o r) (some (Value.int q.1)) (RB κ o q.2) := by
  refine MM.of (by decide +kernel) (Nat.le_of_ble_eq_true rfl) ?_
  intro p e s m below meth c C hnm
  have J26 : ∀ (r : RS), fX10_energy_J26 r = some q → GR κ p l e s m ([.ref o, .int a1, .int a2] : List Value).toArray below meth c rmX10_energy 6 o (some (Value.int q.1)) (RB κ o q.2) r 26 [] [] := by
    intro r h
    unfold fX10_energy_J26 at h
    refine G_bipush (pc' := 28) (v := (-2 : Int32)) C dX10_energy_26 (by decide) rfl ?_
    obtain rfl := Option.some.inj h
    exact G_iret C dX10_energy_28 (fun _ h => h)
  unfold fX10_energy at h
  refine G_sub (lv' := [(0, .ref o), (1, .int a1), (2, .int a2)]) [0, 1, 2] rfl ?_
  refine G_aload_n (pc' := 1) C dX10_energy_0 0 rfl rfl ?_
  refine G_iload_n (pc' := 2) C dX10_energy_1 1 rfl rfl ?_
  obtain ⟨q1, hq1, h⟩ := ob h
  refine G_cV0 (pc' := 5) C dX10_energy_2 (tX10_askTold κ l o r a1 q1 hq1) (wV tw_ml_X10_213 tw_im_X10_askTold tw_se_X10_X10_askTold tw_in_X10 tw_co_X10_askTold) yd_X10_askTold rfl fi_X10 (RB_rd 0 rfl) rfl rfl (by decide) rfl (Nat.le_of_ble_eq_true rfl) rfl rfl ?_
  refine G_istore_n (pc' := 6) C dX10_energy_5 [(3, .int q1), (0, .ref o), (1, .int a1), (2, .int a2)] (by decide) rfl rfl ?_
  refine G_iload_n (pc' := 7) C dX10_energy_6 0 rfl rfl ?_
  refine G_if_eq (tgt := 16) (pc' := 10) C dX10_energy_7 (by decide) rfl (fun hc => ?_) (fun hc => ?_)
  · replace h := z_ip hc h
    refine G_iload_n (pc' := 17) C dX10_energy_16 3 rfl rfl ?_
    refine G_if_lt (tgt := 26) (pc' := 20) C dX10_energy_17 (by decide) rfl (fun hc => ?_) (fun hc => ?_)
    · replace h := z_ip hc h
      exact G_sub [] rfl (J26 r h)
    · replace h := z_in hc h
      refine G_iload_n (pc' := 21) C dX10_energy_20 3 rfl rfl ?_
      refine G_bipush (pc' := 23) (v := (8 : Int32)) C dX10_energy_21 (by decide) rfl ?_
      refine G_icmp_le (tgt := 29) (pc' := 26) C dX10_energy_23 (by decide) rfl (fun hc => ?_) (fun hc => ?_)
      · replace h := z_ip hc h
        refine G_iconst (pc' := 30) (v := (0 : Int32)) C dX10_energy_29 (by decide) rfl ?_
        refine G_istore (pc' := 32) C dX10_energy_30 [(4, .int (0 : Int32)), (3, .int q1), (0, .ref o), (1, .int a1), (2, .int a2)] (by decide) rfl rfl ?_
        refine G_iconst (pc' := 33) (v := (0 : Int32)) C dX10_energy_32 (by decide) rfl ?_
        refine G_istore (pc' := 35) C dX10_energy_33 [(5, .int (0 : Int32)), (4, .int (0 : Int32)), (3, .int q1), (0, .ref o), (1, .int a1), (2, .int a2)] (by decide) rfl rfl ?_
        obtain ⟨e6, hle6, h⟩ := ob h
        refine G_sub (lv' := [(0, .ref o), (1, .int a1), (2, .int a2), (4, .int (0 : Int32)), (5, .int (0 : Int32))]) [3, 4, 5, 1, 0] rfl ?_
        refine lpN_ind (body := fun u => fX10_energy_L35 r a1 a2 u.1 u.2) (P := fun u => GR κ p l e s m ([.ref o, .int a1, .int a2] : List Value).toArray below meth c rmX10_energy 6 o (some (Value.int q.1)) (RB κ o q.2) r 35 [(0, .ref o), (1, .int a1), (2, .int a2), (4, .int u.1), (5, .int u.2)] []) (X := fun w => GR κ p l e s m ([.ref o, .int a1, .int a2] : List Value).toArray below meth c rmX10_energy 6 o (some (Value.int q.1)) (RB κ o q.2) r 84 [(4, .int w)] []) (fun u y hb kc kx => tX10_energy_L35 C hb kc kx) _ _ _ hle6 ?_
        refine G_iload (pc' := 86) C dX10_energy_84 0 rfl rfl ?_
        obtain rfl := Option.some.inj h
        exact G_iret C dX10_energy_86 (fun _ h => h)
      · replace h := z_in hc h
        exact G_sub [] rfl (J26 r h)
  · replace h := z_in hc h
    refine G_aload_n (pc' := 11) C dX10_energy_10 1 rfl rfl ?_
    refine G_iload_n (pc' := 12) C dX10_energy_11 0 rfl rfl ?_
    obtain ⟨q7, hq7, h⟩ := ob h
    refine G_cV0 (pc' := 15) C dX10_energy_12 (tX10_meet κ l o r q1 q7 hq7) (wV tw_ml_X10_136 tw_im_X10_meet tw_se_X10_X10_meet tw_in_X10 tw_co_X10_meet) yd_X10_meet rfl fi_X10 (RB_rd 0 rfl) rfl rfl (by decide) rfl (Nat.le_of_ble_eq_true rfl) rfl rfl ?_
    obtain rfl := Option.some.inj h
    exact G_iret C dX10_energy_15 (fun _ h => h)
theorem dX10_pull_0 : decode cX10_pull 0 = .ok (.aload_n 0, 1) := by decide +kernel
theorem dX10_pull_1 : decode cX10_pull 1 = .ok (.iload_n 1, 1) := by decide +kernel
theorem dX10_pull_2 : decode cX10_pull 2 = .ok (.invokevirtual 213, 3) := by decide +kernel
theorem dX10_pull_5 : decode cX10_pull 5 = .ok (.istore_n 3, 1) := by decide +kernel
theorem dX10_pull_6 : decode cX10_pull 6 = .ok (.iload_n 3, 1) := by decide +kernel
theorem dX10_pull_7 : decode cX10_pull 7 = .ok (.ifCond .eq 9, 3) := by decide +kernel
theorem dX10_pull_10 : decode cX10_pull 10 = .ok (.aload_n 0, 1) := by decide +kernel
theorem dX10_pull_11 : decode cX10_pull 11 = .ok (.iload_n 3, 1) := by decide +kernel
theorem dX10_pull_12 : decode cX10_pull 12 = .ok (.invokevirtual 136, 3) := by decide +kernel
theorem dX10_pull_15 : decode cX10_pull 15 = .ok (.ireturn, 1) := by decide +kernel
theorem dX10_pull_16 : decode cX10_pull 16 = .ok (.iload_n 2, 1) := by decide +kernel
theorem dX10_pull_17 : decode cX10_pull 17 = .ok (.ifCond .lt 13, 3) := by decide +kernel
theorem dX10_pull_20 : decode cX10_pull 20 = .ok (.iload_n 2, 1) := by decide +kernel
theorem dX10_pull_21 : decode cX10_pull 21 = .ok (.aload_n 0, 1) := by decide +kernel
theorem dX10_pull_22 : decode cX10_pull 22 = .ok (.getfield 7, 3) := by decide +kernel
theorem dX10_pull_25 : decode cX10_pull 25 = .ok (.iload_n 1, 1) := by decide +kernel
theorem dX10_pull_26 : decode cX10_pull 26 = .ok (.iaload, 1) := by decide +kernel
theorem dX10_pull_27 : decode cX10_pull 27 = .ok (.if_icmp .lt 6, 3) := by decide +kernel
theorem dX10_pull_30 : decode cX10_pull 30 = .ok (.bipush (-2), 2) := by decide +kernel
theorem dX10_pull_32 : decode cX10_pull 32 = .ok (.ireturn, 1) := by decide +kernel
theorem dX10_pull_33 : decode cX10_pull 33 = .ok (.iconst 0, 1) := by decide +kernel
theorem dX10_pull_34 : decode cX10_pull 34 = .ok (.istore 4, 2) := by decide +kernel
theorem dX10_pull_36 : decode cX10_pull 36 = .ok (.iconst 0, 1) := by decide +kernel
theorem dX10_pull_37 : decode cX10_pull 37 = .ok (.istore 5, 2) := by decide +kernel
theorem dX10_pull_39 : decode cX10_pull 39 = .ok (.iload 5, 2) := by decide +kernel
theorem dX10_pull_41 : decode cX10_pull 41 = .ok (.aload_n 0, 1) := by decide +kernel
theorem dX10_pull_42 : decode cX10_pull 42 = .ok (.iload_n 1, 1) := by decide +kernel
theorem dX10_pull_43 : decode cX10_pull 43 = .ok (.invokevirtual 119, 3) := by decide +kernel
theorem dX10_pull_46 : decode cX10_pull 46 = .ok (.if_icmp .ge 40, 3) := by decide +kernel
theorem dX10_pull_49 : decode cX10_pull 49 = .ok (.iload 4, 2) := by decide +kernel
theorem dX10_pull_51 : decode cX10_pull 51 = .ok (.aload_n 0, 1) := by decide +kernel
theorem dX10_pull_52 : decode cX10_pull 52 = .ok (.iload_n 1, 1) := by decide +kernel
theorem dX10_pull_53 : decode cX10_pull 53 = .ok (.iload 5, 2) := by decide +kernel
theorem dX10_pull_55 : decode cX10_pull 55 = .ok (.iconst 1, 1) := by decide +kernel
theorem dX10_pull_56 : decode cX10_pull 56 = .ok (.iload_n 2, 1) := by decide +kernel
theorem dX10_pull_57 : decode cX10_pull 57 = .ok (.ishl, 1) := by decide +kernel
theorem dX10_pull_58 : decode cX10_pull 58 = .ok (.ixor, 1) := by decide +kernel
theorem dX10_pull_59 : decode cX10_pull 59 = .ok (.invokevirtual 123, 3) := by decide +kernel
theorem dX10_pull_62 : decode cX10_pull 62 = .ok (.aload_n 0, 1) := by decide +kernel
theorem dX10_pull_63 : decode cX10_pull 63 = .ok (.iload_n 1, 1) := by decide +kernel
theorem dX10_pull_64 : decode cX10_pull 64 = .ok (.iload 5, 2) := by decide +kernel
theorem dX10_pull_66 : decode cX10_pull 66 = .ok (.invokevirtual 123, 3) := by decide +kernel
theorem dX10_pull_69 : decode cX10_pull 69 = .ok (.if_icmp .eq 7, 3) := by decide +kernel
theorem dX10_pull_72 : decode cX10_pull 72 = .ok (.iconst 1, 1) := by decide +kernel
theorem dX10_pull_73 : decode cX10_pull 73 = .ok (.goto 4, 3) := by decide +kernel
theorem dX10_pull_76 : decode cX10_pull 76 = .ok (.iconst 0, 1) := by decide +kernel
theorem dX10_pull_77 : decode cX10_pull 77 = .ok (.iadd, 1) := by decide +kernel
theorem dX10_pull_78 : decode cX10_pull 78 = .ok (.istore 4, 2) := by decide +kernel
theorem dX10_pull_80 : decode cX10_pull 80 = .ok (.iinc 5 1, 3) := by decide +kernel
theorem dX10_pull_83 : decode cX10_pull 83 = .ok (.goto (-44), 3) := by decide +kernel
theorem dX10_pull_86 : decode cX10_pull 86 = .ok (.iload 4, 2) := by decide +kernel
theorem dX10_pull_88 : decode cX10_pull 88 = .ok (.ireturn, 1) := by decide +kernel
abbrev rmX10_pull : Room := { frames := 3, cells := 0, slots := 0, locals := 67 }
theorem yd_X10_pull : yX10_pull.cls = RX10 ∧ yX10_pull.cls ≠ "java/lang/invoke/MethodHandle" ∧ yX10_pull.cls ≠ "java/lang/invoke/VarHandle" ∧ (parseMethodDescriptor yX10_pull.desc).map (fun d => d.parameters.length) = some 2 := by decide +kernel
def fX10_pull_L39_J77 (r : RS) (l1 : Int32) (l2 : Int32) (l5 : Int32) (s0 : Int32) (s1 : Int32) : Option ((Int32 × Int32) ⊕ Int32) :=
  some (.inl ((s1 + s0), (l5 + (1 : Int32))))
def fX10_pull_L39 (r : RS) (l1 : Int32) (l2 : Int32) (l4 : Int32) (l5 : Int32) : Option ((Int32 × Int32) ⊕ Int32) :=
  (fX10_inputs r l1).bind fun q3 =>
  if q3 ≤ l5 then
    some (.inr l4)
  else
    (fX10_say0 r l1 (l5 ^^^ ((1 : Int32) <<< (l2 &&& 31)))).bind fun q4 =>
    (fX10_say0 r l1 l5).bind fun q5 =>
    if q4 = q5 then
      fX10_pull_L39_J77 r l1 l2 l5 (0 : Int32) l4
    else
      fX10_pull_L39_J77 r l1 l2 l5 (1 : Int32) l4
def fX10_pull_J30 (r : RS) : Option (Int32 × RS) :=
  some ((-2 : Int32), r)
def fX10_pull (r : RS) (a1 : Int32) (a2 : Int32) : Option (Int32 × RS) :=
  (fX10_askTold r a1).bind fun q1 =>
  if q1 = 0 then
    if a2 < 0 then
      fX10_pull_J30 r
    else
      (aI 16 (r.2.1 0) a1).bind fun v2 =>
      if a2 < v2 then
        (lpN (fun u => fX10_pull_L39 r a1 a2 u.1 u.2) bigN ((0 : Int32), (0 : Int32))).bind fun e6 =>
        some (e6, r)
      else
        fX10_pull_J30 r
  else
    (fX10_meet r q1).bind fun q7 =>
    some (q7.1, q7.2)
set_option maxHeartbeats 4000000 in
set_option maxRecDepth 100000 in
theorem tX10_pull_L39 {κ : KK} {p : Program} {l : Launch} {e : Env} {s : State} {m : MethodId} {args : Array Value} {below : List Frame} {meth : Method} {c : Code} (C : Cx κ p s m args meth c cX10_pull 6 RX10 (some .int)) {o : Nat} {v : Option Value} {B' : Heap → Prop} {r : RS} {l1 : Int32} {l2 : Int32} {l4 : Int32} {l5 : Int32} {y : (Int32 × Int32) ⊕ Int32} (h : fX10_pull_L39 r l1 l2 l4 l5 = some y) (kc : ∀ u, y = .inl u → GR κ p l e s m args below meth c rmX10_pull 6 o v B' r 39 [(0, .ref o), (1, .int l1), (2, .int l2), (4, .int u.1), (5, .int u.2)] []) (kx : ∀ w, y = .inr w → GR κ p l e s m args below meth c rmX10_pull 6 o v B' r 86 [(4, .int w)] []) : GR κ p l e s m args below meth c rmX10_pull 6 o v B' r 39 [(0, .ref o), (1, .int l1), (2, .int l2), (4, .int l4), (5, .int l5)] [] := by
  have J77 : ∀ (l5 : Int32) (s0 : Int32) (s1 : Int32), fX10_pull_L39_J77 r l1 l2 l5 s0 s1 = some y → GR κ p l e s m args below meth c rmX10_pull 6 o v B' r 77 [(0, .ref o), (1, .int l1), (2, .int l2), (5, .int l5)] [.int s0, .int s1] := by
    intro l5 s0 s1 h
    unfold fX10_pull_L39_J77 at h
    refine G_iadd (pc' := 78) C dX10_pull_77 rfl ?_
    refine G_istore (pc' := 80) C dX10_pull_78 [(4, .int (s1 + s0)), (0, .ref o), (1, .int l1), (2, .int l2), (5, .int l5)] (by decide) rfl rfl ?_
    refine G_iinc (pc' := 83) C dX10_pull_80 4 rfl rfl [(5, .int (l5 + (1 : Int32))), (4, .int (s1 + s0)), (0, .ref o), (1, .int l1), (2, .int l2)] (by decide) rfl rfl ?_
    refine G_goto (tgt := 39) C dX10_pull_83 (by decide) ?_
    exact G_sub [2, 3, 4, 1, 0] rfl (kc _ (Option.some.inj h).symm)
  unfold fX10_pull_L39 at h
  refine G_iload (pc' := 41) C dX10_pull_39 4 rfl rfl ?_
  refine G_aload_n (pc' := 42) C dX10_pull_41 0 rfl rfl ?_
  refine G_iload_n (pc' := 43) C dX10_pull_42 1 rfl rfl ?_
  obtain ⟨q3, hq3, h⟩ := ob h
  refine G_cV0 (pc' := 46) C dX10_pull_43 (tX10_inputs κ l o r l1 q3 hq3) (wV tw_ml_X10_119 tw_im_X10_inputs tw_se_X10_X10_inputs tw_in_X10 tw_co_X10_inputs) yd_X10_inputs rfl fi_X10 (RB_rd 0 rfl) rfl rfl (by decide) rfl (Nat.le_of_ble_eq_true rfl) rfl rfl ?_
  refine G_icmp_ge (tgt := 86) (pc' := 49) C dX10_pull_46 (by decide) rfl (fun hc => ?_) (fun hc => ?_)
  · replace h := z_ip hc h
    exact G_sub [3] rfl (kx _ (Option.some.inj h).symm)
  · replace h := z_in hc h
    refine G_iload (pc' := 51) C dX10_pull_49 3 rfl rfl ?_
    refine G_aload_n (pc' := 52) C dX10_pull_51 0 rfl rfl ?_
    refine G_iload_n (pc' := 53) C dX10_pull_52 1 rfl rfl ?_
    refine G_iload (pc' := 55) C dX10_pull_53 4 rfl rfl ?_
    refine G_iconst (pc' := 56) (v := (1 : Int32)) C dX10_pull_55 (by decide) rfl ?_
    refine G_iload_n (pc' := 57) C dX10_pull_56 2 rfl rfl ?_
    refine G_ishl (pc' := 58) C dX10_pull_57 rfl ?_
    refine G_ixor (pc' := 59) C dX10_pull_58 rfl ?_
    obtain ⟨q4, hq4, h⟩ := ob h
    refine G_cV0 (pc' := 62) C dX10_pull_59 (tX10_say0 κ l o r l1 (l5 ^^^ ((1 : Int32) <<< (l2 &&& 31))) q4 hq4) (wV tw_ml_X10_123 tw_im_X10_say0 tw_se_X10_X10_say0 tw_in_X10 tw_co_X10_say0) yd_X10_say0 rfl fi_X10 (RB_rd 0 rfl) rfl rfl (by decide) rfl (Nat.le_of_ble_eq_true rfl) rfl rfl ?_
    refine G_aload_n (pc' := 63) C dX10_pull_62 0 rfl rfl ?_
    refine G_iload_n (pc' := 64) C dX10_pull_63 1 rfl rfl ?_
    refine G_iload (pc' := 66) C dX10_pull_64 4 rfl rfl ?_
    obtain ⟨q5, hq5, h⟩ := ob h
    refine G_cV0 (pc' := 69) C dX10_pull_66 (tX10_say0 κ l o r l1 l5 q5 hq5) (wV tw_ml_X10_123 tw_im_X10_say0 tw_se_X10_X10_say0 tw_in_X10 tw_co_X10_say0) yd_X10_say0 rfl fi_X10 (RB_rd 0 rfl) rfl rfl (by decide) rfl (Nat.le_of_ble_eq_true rfl) rfl rfl ?_
    refine G_icmp_eq (tgt := 76) (pc' := 72) C dX10_pull_69 (by decide) rfl (fun hc => ?_) (fun hc => ?_)
    · replace h := z_ip hc h
      refine G_iconst (pc' := 77) (v := (0 : Int32)) C dX10_pull_76 (by decide) rfl ?_
      exact G_sub [0, 1, 2, 4] rfl (J77 l5 (0 : Int32) l4 h)
    · replace h := z_in hc h
      refine G_iconst (pc' := 73) (v := (1 : Int32)) C dX10_pull_72 (by decide) rfl ?_
      refine G_goto (tgt := 77) C dX10_pull_73 (by decide) ?_
      exact G_sub [0, 1, 2, 4] rfl (J77 l5 (1 : Int32) l4 h)
set_option maxHeartbeats 4000000 in
set_option maxRecDepth 100000 in
theorem tX10_pull (κ : KK) (l : Launch) (o : Nat) (r : RS) (a1 : Int32) (a2 : Int32) (q : Int32 × RS) (h : fX10_pull r a1 a2 = some q) : MM κ l yX10_pull cX10_pull 6 (some .int) rmX10_pull (RA o) [.ref o, .int a1, .int a2] (RB κ o r) (some (Value.int q.1)) (RB κ o q.2) := by
  refine MM.of (by decide +kernel) (Nat.le_of_ble_eq_true rfl) ?_
  intro p e s m below meth c C hnm
  have J30 : ∀ (r : RS), fX10_pull_J30 r = some q → GR κ p l e s m ([.ref o, .int a1, .int a2] : List Value).toArray below meth c rmX10_pull 6 o (some (Value.int q.1)) (RB κ o q.2) r 30 [] [] := by
    intro r h
    unfold fX10_pull_J30 at h
    refine G_bipush (pc' := 32) (v := (-2 : Int32)) C dX10_pull_30 (by decide) rfl ?_
    obtain rfl := Option.some.inj h
    exact G_iret C dX10_pull_32 (fun _ h => h)
  unfold fX10_pull at h
  refine G_sub (lv' := [(0, .ref o), (1, .int a1), (2, .int a2)]) [0, 1, 2] rfl ?_
  refine G_aload_n (pc' := 1) C dX10_pull_0 0 rfl rfl ?_
  refine G_iload_n (pc' := 2) C dX10_pull_1 1 rfl rfl ?_
  obtain ⟨q1, hq1, h⟩ := ob h
  refine G_cV0 (pc' := 5) C dX10_pull_2 (tX10_askTold κ l o r a1 q1 hq1) (wV tw_ml_X10_213 tw_im_X10_askTold tw_se_X10_X10_askTold tw_in_X10 tw_co_X10_askTold) yd_X10_askTold rfl fi_X10 (RB_rd 0 rfl) rfl rfl (by decide) rfl (Nat.le_of_ble_eq_true rfl) rfl rfl ?_
  refine G_istore_n (pc' := 6) C dX10_pull_5 [(3, .int q1), (0, .ref o), (1, .int a1), (2, .int a2)] (by decide) rfl rfl ?_
  refine G_iload_n (pc' := 7) C dX10_pull_6 0 rfl rfl ?_
  refine G_if_eq (tgt := 16) (pc' := 10) C dX10_pull_7 (by decide) rfl (fun hc => ?_) (fun hc => ?_)
  · replace h := z_ip hc h
    refine G_iload_n (pc' := 17) C dX10_pull_16 3 rfl rfl ?_
    refine G_if_lt (tgt := 30) (pc' := 20) C dX10_pull_17 (by decide) rfl (fun hc => ?_) (fun hc => ?_)
    · replace h := z_ip hc h
      exact G_sub [] rfl (J30 r h)
    · replace h := z_in hc h
      refine G_iload_n (pc' := 21) C dX10_pull_20 3 rfl rfl ?_
      refine G_aload_n (pc' := 22) C dX10_pull_21 1 rfl rfl ?_
      refine R_g_bits (pc' := 25) C dX10_pull_22 rfl ?_
      refine G_iload_n (pc' := 26) C dX10_pull_25 2 rfl rfl ?_
      obtain ⟨v2, hv2, h⟩ := ob h
      refine R_l_bits (pc' := 27) C dX10_pull_26 hv2 rfl ?_
      refine G_icmp_lt (tgt := 33) (pc' := 30) C dX10_pull_27 (by decide) rfl (fun hc => ?_) (fun hc => ?_)
      · replace h := z_ip hc h
        refine G_iconst (pc' := 34) (v := (0 : Int32)) C dX10_pull_33 (by decide) rfl ?_
        refine G_istore (pc' := 36) C dX10_pull_34 [(4, .int (0 : Int32)), (3, .int q1), (0, .ref o), (1, .int a1), (2, .int a2)] (by decide) rfl rfl ?_
        refine G_iconst (pc' := 37) (v := (0 : Int32)) C dX10_pull_36 (by decide) rfl ?_
        refine G_istore (pc' := 39) C dX10_pull_37 [(5, .int (0 : Int32)), (4, .int (0 : Int32)), (3, .int q1), (0, .ref o), (1, .int a1), (2, .int a2)] (by decide) rfl rfl ?_
        obtain ⟨e6, hle6, h⟩ := ob h
        refine G_sub (lv' := [(0, .ref o), (1, .int a1), (2, .int a2), (4, .int (0 : Int32)), (5, .int (0 : Int32))]) [3, 4, 5, 1, 0] rfl ?_
        refine lpN_ind (body := fun u => fX10_pull_L39 r a1 a2 u.1 u.2) (P := fun u => GR κ p l e s m ([.ref o, .int a1, .int a2] : List Value).toArray below meth c rmX10_pull 6 o (some (Value.int q.1)) (RB κ o q.2) r 39 [(0, .ref o), (1, .int a1), (2, .int a2), (4, .int u.1), (5, .int u.2)] []) (X := fun w => GR κ p l e s m ([.ref o, .int a1, .int a2] : List Value).toArray below meth c rmX10_pull 6 o (some (Value.int q.1)) (RB κ o q.2) r 86 [(4, .int w)] []) (fun u y hb kc kx => tX10_pull_L39 C hb kc kx) _ _ _ hle6 ?_
        refine G_iload (pc' := 88) C dX10_pull_86 0 rfl rfl ?_
        obtain rfl := Option.some.inj h
        exact G_iret C dX10_pull_88 (fun _ h => h)
      · replace h := z_in hc h
        exact G_sub [] rfl (J30 r h)
  · replace h := z_in hc h
    refine G_aload_n (pc' := 11) C dX10_pull_10 1 rfl rfl ?_
    refine G_iload_n (pc' := 12) C dX10_pull_11 0 rfl rfl ?_
    obtain ⟨q7, hq7, h⟩ := ob h
    refine G_cV0 (pc' := 15) C dX10_pull_12 (tX10_meet κ l o r q1 q7 hq7) (wV tw_ml_X10_136 tw_im_X10_meet tw_se_X10_X10_meet tw_in_X10 tw_co_X10_meet) yd_X10_meet rfl fi_X10 (RB_rd 0 rfl) rfl rfl (by decide) rfl (Nat.le_of_ble_eq_true rfl) rfl rfl ?_
    obtain rfl := Option.some.inj h
    exact G_iret C dX10_pull_15 (fun _ h => h)
