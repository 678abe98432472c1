theorem dX10_game_0 : decode cX10_game 0 = .ok (.aload_n 0, 1) := by decide +kernel
theorem dX10_game_1 : decode cX10_game 1 = .ok (.iload_n 1, 1) := by decide +kernel
theorem dX10_game_2 : decode cX10_game 2 = .ok (.invokevirtual 127, 3) := by decide +kernel
theorem dX10_game_5 : decode cX10_game 5 = .ok (.istore_n 2, 1) := by decide +kernel
theorem dX10_game_6 : decode cX10_game 6 = .ok (.iload_n 2, 1) := by decide +kernel
theorem dX10_game_7 : decode cX10_game 7 = .ok (.ifCond .eq 9, 3) := by decide +kernel
theorem dX10_game_10 : decode cX10_game 10 = .ok (.aload_n 0, 1) := by decide +kernel
theorem dX10_game_11 : decode cX10_game 11 = .ok (.iload_n 2, 1) := by decide +kernel
theorem dX10_game_12 : decode cX10_game 12 = .ok (.invokevirtual 136, 3) := by decide +kernel
theorem dX10_game_15 : decode cX10_game 15 = .ok (.ireturn, 1) := by decide +kernel
theorem dX10_game_16 : decode cX10_game 16 = .ok (.aload_n 0, 1) := by decide +kernel
theorem dX10_game_17 : decode cX10_game 17 = .ok (.iload_n 1, 1) := by decide +kernel
theorem dX10_game_18 : decode cX10_game 18 = .ok (.invokevirtual 186, 3) := by decide +kernel
theorem dX10_game_21 : decode cX10_game 21 = .ok (.aload_n 0, 1) := by decide +kernel
theorem dX10_game_22 : decode cX10_game 22 = .ok (.aload_n 0, 1) := by decide +kernel
theorem dX10_game_23 : decode cX10_game 23 = .ok (.getfield 7, 3) := by decide +kernel
theorem dX10_game_26 : decode cX10_game 26 = .ok (.iload_n 1, 1) := by decide +kernel
theorem dX10_game_27 : decode cX10_game 27 = .ok (.iaload, 1) := by decide +kernel
theorem dX10_game_28 : decode cX10_game 28 = .ok (.putfield 243, 3) := by decide +kernel
theorem dX10_game_31 : decode cX10_game 31 = .ok (.aload_n 0, 1) := by decide +kernel
theorem dX10_game_32 : decode cX10_game 32 = .ok (.aload_n 0, 1) := by decide +kernel
theorem dX10_game_33 : decode cX10_game 33 = .ok (.iload_n 1, 1) := by decide +kernel
theorem dX10_game_34 : decode cX10_game 34 = .ok (.invokevirtual 190, 3) := by decide +kernel
theorem dX10_game_37 : decode cX10_game 37 = .ok (.putfield 246, 3) := by decide +kernel
theorem dX10_game_40 : decode cX10_game 40 = .ok (.iconst 0, 1) := by decide +kernel
theorem dX10_game_41 : decode cX10_game 41 = .ok (.istore_n 3, 1) := by decide +kernel
theorem dX10_game_42 : decode cX10_game 42 = .ok (.iload_n 3, 1) := by decide +kernel
theorem dX10_game_43 : decode cX10_game 43 = .ok (.aload_n 0, 1) := by decide +kernel
theorem dX10_game_44 : decode cX10_game 44 = .ok (.getfield 246, 3) := by decide +kernel
theorem dX10_game_47 : decode cX10_game 47 = .ok (.if_icmp .gt 33, 3) := by decide +kernel
theorem dX10_game_50 : decode cX10_game 50 = .ok (.aload_n 0, 1) := by decide +kernel
theorem dX10_game_51 : decode cX10_game 51 = .ok (.getfield 106, 3) := by decide +kernel
theorem dX10_game_54 : decode cX10_game 54 = .ok (.iload_n 3, 1) := by decide +kernel
theorem dX10_game_55 : decode cX10_game 55 = .ok (.aload_n 0, 1) := by decide +kernel
theorem dX10_game_56 : decode cX10_game 56 = .ok (.getfield 57, 3) := by decide +kernel
theorem dX10_game_59 : decode cX10_game 59 = .ok (.iload_n 3, 1) := by decide +kernel
theorem dX10_game_60 : decode cX10_game 60 = .ok (.iaload, 1) := by decide +kernel
theorem dX10_game_61 : decode cX10_game 61 = .ok (.iastore, 1) := by decide +kernel
theorem dX10_game_62 : decode cX10_game 62 = .ok (.aload_n 0, 1) := by decide +kernel
theorem dX10_game_63 : decode cX10_game 63 = .ok (.getfield 109, 3) := by decide +kernel
theorem dX10_game_66 : decode cX10_game 66 = .ok (.iload_n 3, 1) := by decide +kernel
theorem dX10_game_67 : decode cX10_game 67 = .ok (.aload_n 0, 1) := by decide +kernel
theorem dX10_game_68 : decode cX10_game 68 = .ok (.getfield 54, 3) := by decide +kernel
theorem dX10_game_71 : decode cX10_game 71 = .ok (.iload_n 3, 1) := by decide +kernel
theorem dX10_game_72 : decode cX10_game 72 = .ok (.iaload, 1) := by decide +kernel
theorem dX10_game_73 : decode cX10_game 73 = .ok (.iastore, 1) := by decide +kernel
theorem dX10_game_74 : decode cX10_game 74 = .ok (.iinc 3 1, 3) := by decide +kernel
theorem dX10_game_77 : decode cX10_game 77 = .ok (.goto (-35), 3) := by decide +kernel
theorem dX10_game_80 : decode cX10_game 80 = .ok (.aload_n 0, 1) := by decide +kernel
theorem dX10_game_81 : decode cX10_game 81 = .ok (.getfield 106, 3) := by decide +kernel
theorem dX10_game_84 : decode cX10_game 84 = .ok (.aload_n 0, 1) := by decide +kernel
theorem dX10_game_85 : decode cX10_game 85 = .ok (.getfield 246, 3) := by decide +kernel
theorem dX10_game_88 : decode cX10_game 88 = .ok (.iaload, 1) := by decide +kernel
theorem dX10_game_89 : decode cX10_game 89 = .ok (.ireturn, 1) := by decide +kernel
abbrev rmX10_game : Room := { frames := 2, cells := 0, slots := 0, locals := 51 }
theorem yd_X10_game : yX10_game.cls = RX10 ∧ yX10_game.cls ≠ "java/lang/invoke/MethodHandle" ∧ yX10_game.cls ≠ "java/lang/invoke/VarHandle" ∧ (parseMethodDescriptor yX10_game.desc).map (fun d => d.parameters.length) = some 1 := by decide +kernel
def fX10_game_L42 (r : RS) (l3 : Int32) : Option ((Int32 × RS) ⊕ RS) :=
  if (r.1 9) < l3 then
    some (.inr r)
  else
    (aI 6561 (r.2.1 13) l3).bind fun v5 =>
    (sA r 29 6561 l3 v5).bind fun r6 =>
    (aI 6561 (r6.2.1 12) l3).bind fun v7 =>
    (sA r6 30 6561 l3 v7).bind fun r8 =>
    some (.inl ((l3 + (1 : Int32)), r8))
def fX10_game (r : RS) (a1 : Int32) : Option (Int32 × RS) :=
  (fX10_askPlace r a1).bind fun q1 =>
  if q1 = 0 then
    (fX10_tellCubes r a1).bind fun q2 =>
    (aI 16 (q2.2.1 0) a1).bind fun v3 =>
    (fX10_whole (rI q2 8 v3) a1).bind fun q4 =>
    (lpN (fun u => fX10_game_L42 u.2 u.1) bigN ((0 : Int32), (rI (rI q2 8 v3) 9 q4))).bind fun e9 =>
    (aI 6561 (e9.2.1 29) (e9.1 9)).bind fun v10 =>
    some (v10, e9)
  else
    (fX10_meet r q1).bind fun q11 =>
    some (q11.1, q11.2)
set_option maxHeartbeats 4000000 in
set_option maxRecDepth 100000 in
theorem tX10_game_L42 {κ : KK} {p : Program} {l : Launch} {e : Env} {s : State} {m : MethodId} {args : Array Value} {below : List Frame} {meth : Method} {c : Code} (C : Cx κ p s m args meth c cX10_game 4 RX10 (some .int)) {o : Nat} {v : Option Value} {B' : Heap → Prop} {r : RS} {l3 : Int32} {y : (Int32 × RS) ⊕ RS} (h : fX10_game_L42 r l3 = some y) (kc : ∀ u, y = .inl u → GR κ p l e s m args below meth c rmX10_game 4 o v B' u.2 42 [(0, .ref o), (3, .int u.1)] []) (kx : ∀ w, y = .inr w → GR κ p l e s m args below meth c rmX10_game 4 o v B' w 80 [(0, .ref o)] []) : GR κ p l e s m args below meth c rmX10_game 4 o v B' r 42 [(0, .ref o), (3, .int l3)] [] := by
  unfold fX10_game_L42 at h
  refine G_iload_n (pc' := 43) C dX10_game_42 1 rfl rfl ?_
  refine G_aload_n (pc' := 44) C dX10_game_43 0 rfl rfl ?_
  refine R_g_gameCube (pc' := 47) C dX10_game_44 rfl ?_
  refine G_icmp_gt (tgt := 80) (pc' := 50) C dX10_game_47 (by decide) rfl (fun hc => ?_) (fun hc => ?_)
  · replace h := z_ip hc h
    exact G_sub (lv' := [(0, .ref o)]) [0] rfl (kx _ (Option.some.inj h).symm)
  · replace h := z_in hc h
    refine G_aload_n (pc' := 51) C dX10_game_50 0 rfl rfl ?_
    refine R_g_gameDepth (pc' := 54) C dX10_game_51 rfl ?_
    refine G_iload_n (pc' := 55) C dX10_game_54 1 rfl rfl ?_
    refine G_aload_n (pc' := 56) C dX10_game_55 0 rfl rfl ?_
    refine R_g_depth (pc' := 59) C dX10_game_56 rfl ?_
    refine G_iload_n (pc' := 60) C dX10_game_59 1 rfl rfl ?_
    obtain ⟨v5, hv5, h⟩ := ob h
    refine R_l_depth (pc' := 61) C dX10_game_60 hv5 rfl ?_
    obtain ⟨r6, hr6, h⟩ := ob h
    refine R_s_gameDepth (pc' := 62) C dX10_game_61 hr6 rfl ?_
    refine G_aload_n (pc' := 63) C dX10_game_62 0 rfl rfl ?_
    refine R_g_gameHas (pc' := 66) C dX10_game_63 rfl ?_
    refine G_iload_n (pc' := 67) C dX10_game_66 1 rfl rfl ?_
    refine G_aload_n (pc' := 68) C dX10_game_67 0 rfl rfl ?_
    refine R_g_has (pc' := 71) C dX10_game_68 rfl ?_
    refine G_iload_n (pc' := 72) C dX10_game_71 1 rfl rfl ?_
    obtain ⟨v7, hv7, h⟩ := ob h
    refine R_l_has (pc' := 73) C dX10_game_72 hv7 rfl ?_
    obtain ⟨r8, hr8, h⟩ := ob h
    refine R_s_gameHas (pc' := 74) C dX10_game_73 hr8 rfl ?_
    refine G_iinc (pc' := 77) C dX10_game_74 1 rfl rfl [(3, .int (l3 + (1 : Int32))), (0, .ref o)] (by decide) rfl rfl ?_
    refine G_goto (tgt := 42) C dX10_game_77 (by decide) ?_
    exact G_sub (lv' := [(0, .ref o), (3, .int (l3 + (1 : Int32)))]) [1, 0] rfl (kc ((l3 + (1 : Int32)), r8) (Option.some.inj h).symm)
set_option maxHeartbeats 4000000 in
set_option maxRecDepth 100000 in
theorem tX10_game (κ : KK) (l : Launch) (o : Nat) (r : RS) (a1 : Int32) (q : Int32 × RS) (h : fX10_game r a1 = some q) : MM κ l yX10_game cX10_game 4 (some .int) rmX10_game (RA o) [.ref o, .int a1] (RB κ o r) (some (Value.int q.1)) (RB κ o q.2) := by
  refine MM.of (by decide +kernel) (Nat.le_of_ble_eq_true rfl) ?_
  intro p e s m below meth c C hnm
  unfold fX10_game at h
  refine G_sub (lv' := [(0, .ref o), (1, .int a1)]) [0, 1] rfl ?_
  refine G_aload_n (pc' := 1) C dX10_game_0 0 rfl rfl ?_
  refine G_iload_n (pc' := 2) C dX10_game_1 1 rfl rfl ?_
  obtain ⟨q1, hq1, h⟩ := ob h
  refine G_cV0 (pc' := 5) C dX10_game_2 (tX10_askPlace κ l o r a1 q1 hq1) (wV tw_ml_X10_127 tw_im_X10_askPlace tw_se_X10_X10_askPlace tw_in_X10 tw_co_X10_askPlace) yd_X10_askPlace rfl fi_X10 (RB_rd 0 rfl) rfl rfl (by decide) rfl (Nat.le_of_ble_eq_true rfl) rfl rfl ?_
  refine G_istore_n (pc' := 6) C dX10_game_5 [(2, .int q1), (0, .ref o), (1, .int a1)] (by decide) rfl rfl ?_
  refine G_iload_n (pc' := 7) C dX10_game_6 0 rfl rfl ?_
  refine G_if_eq (tgt := 16) (pc' := 10) C dX10_game_7 (by decide) rfl (fun hc => ?_) (fun hc => ?_)
  · replace h := z_ip hc h
    refine G_aload_n (pc' := 17) C dX10_game_16 1 rfl rfl ?_
    refine G_iload_n (pc' := 18) C dX10_game_17 2 rfl rfl ?_
    obtain ⟨q2, hq2, h⟩ := ob h
    refine G_cV0 (pc' := 21) C dX10_game_18 (tX10_tellCubes κ l o r a1 q2 hq2) (wV tw_ml_X10_186 tw_im_X10_tellCubes tw_se_X10_X10_tellCubes tw_in_X10 tw_co_X10_tellCubes) yd_X10_tellCubes rfl fi_X10 (RB_rd 0 rfl) rfl rfl (by decide) rfl (Nat.le_of_ble_eq_true rfl) rfl rfl ?_
    refine G_aload_n (pc' := 22) C dX10_game_21 1 rfl rfl ?_
    refine G_aload_n (pc' := 23) C dX10_game_22 1 rfl rfl ?_
    refine R_g_bits (pc' := 26) C dX10_game_23 rfl ?_
    refine G_iload_n (pc' := 27) C dX10_game_26 2 rfl rfl ?_
    obtain ⟨v3, hv3, h⟩ := ob h
    refine R_l_bits (pc' := 28) C dX10_game_27 hv3 rfl ?_
    refine R_p_gameBits (pc' := 31) C dX10_game_28 rfl ?_
    refine G_aload_n (pc' := 32) C dX10_game_31 1 rfl rfl ?_
    refine G_aload_n (pc' := 33) C dX10_game_32 1 rfl rfl ?_
    refine G_iload_n (pc' := 34) C dX10_game_33 2 rfl rfl ?_
    obtain ⟨q4, hq4, h⟩ := ob h
    refine G_cV0 (pc' := 37) C dX10_game_34 (tX10_whole κ l o (rI q2 8 v3) a1 q4 hq4) (wV tw_ml_X10_190 tw_im_X10_whole tw_se_X10_X10_whole tw_in_X10 tw_co_X10_whole) yd_X10_whole rfl fi_X10 (RB_rd 0 rfl) rfl rfl (by decide) rfl (Nat.le_of_ble_eq_true rfl) rfl rfl ?_
    refine R_p_gameCube (pc' := 40) C dX10_game_37 rfl ?_
    refine G_iconst (pc' := 41) (v := (0 : Int32)) C dX10_game_40 (by decide) rfl ?_
    refine G_istore_n (pc' := 42) C dX10_game_41 [(3, .int (0 : Int32)), (2, .int q1), (0, .ref o), (1, .int a1)] (by decide) rfl rfl ?_
    obtain ⟨e9, hle9, h⟩ := ob h
    refine G_sub (lv' := [(0, .ref o), (3, .int (0 : Int32))]) [2, 0] rfl ?_
    refine lpN_ind (body := fun u => fX10_game_L42 u.2 u.1) (P := fun u => GR κ p l e s m ([.ref o, .int a1] : List Value).toArray below meth c rmX10_game 4 o (some (Value.int q.1)) (RB κ o q.2) u.2 42 [(0, .ref o), (3, .int u.1)] []) (X := fun w => GR κ p l e s m ([.ref o, .int a1] : List Value).toArray below meth c rmX10_game 4 o (some (Value.int q.1)) (RB κ o q.2) w 80 [(0, .ref o)] []) (fun u y hb kc kx => tX10_game_L42 C hb kc kx) _ _ _ hle9 ?_
    refine G_aload_n (pc' := 81) C dX10_game_80 0 rfl rfl ?_
    refine R_g_gameDepth (pc' := 84) C dX10_game_81 rfl ?_
    refine G_aload_n (pc' := 85) C dX10_game_84 0 rfl rfl ?_
    refine R_g_gameCube (pc' := 88) C dX10_game_85 rfl ?_
    obtain ⟨v10, hv10, h⟩ := ob h
    refine R_l_gameDepth (pc' := 89) C dX10_game_88 hv10 rfl ?_
    obtain rfl := Option.some.inj h
    exact G_iret C dX10_game_89 (fun _ h => h)
  · replace h := z_in hc h
    refine G_aload_n (pc' := 11) C dX10_game_10 1 rfl rfl ?_
    refine G_iload_n (pc' := 12) C dX10_game_11 0 rfl rfl ?_
    obtain ⟨q11, hq11, h⟩ := ob h
    refine G_cV0 (pc' := 15) C dX10_game_12 (tX10_meet κ l o r q1 q11 hq11) (wV tw_ml_X10_136 tw_im_X10_meet tw_se_X10_X10_meet tw_in_X10 tw_co_X10_meet) yd_X10_meet rfl fi_X10 (RB_rd 0 rfl) rfl rfl (by decide) rfl (Nat.le_of_ble_eq_true rfl) rfl rfl ?_
    obtain rfl := Option.some.inj h
    exact G_iret C dX10_game_15 (fun _ h => h)
theorem dX10_ask_0 : decode cX10_ask 0 = .ok (.aload_n 0, 1) := by decide +kernel
theorem dX10_ask_1 : decode cX10_ask 1 = .ok (.getfield 243, 3) := by decide +kernel
theorem dX10_ask_4 : decode cX10_ask 4 = .ok (.ifCond .eq 28, 3) := by decide +kernel
theorem dX10_ask_7 : decode cX10_ask 7 = .ok (.iload_n 1, 1) := by decide +kernel
theorem dX10_ask_8 : decode cX10_ask 8 = .ok (.ifCond .lt 24, 3) := by decide +kernel
theorem dX10_ask_11 : decode cX10_ask 11 = .ok (.iload_n 1, 1) := by decide +kernel
theorem dX10_ask_12 : decode cX10_ask 12 = .ok (.aload_n 0, 1) := by decide +kernel
theorem dX10_ask_13 : decode cX10_ask 13 = .ok (.getfield 243, 3) := by decide +kernel
theorem dX10_ask_16 : decode cX10_ask 16 = .ok (.if_icmp .ge 16, 3) := by decide +kernel
theorem dX10_ask_19 : decode cX10_ask 19 = .ok (.aload_n 0, 1) := by decide +kernel
theorem dX10_ask_20 : decode cX10_ask 20 = .ok (.aload_n 0, 1) := by decide +kernel
theorem dX10_ask_21 : decode cX10_ask 21 = .ok (.getfield 246, 3) := by decide +kernel
theorem dX10_ask_24 : decode cX10_ask 24 = .ok (.iload_n 1, 1) := by decide +kernel
theorem dX10_ask_25 : decode cX10_ask 25 = .ok (.invokevirtual 173, 3) := by decide +kernel
theorem dX10_ask_28 : decode cX10_ask 28 = .ok (.iconst 2, 1) := by decide +kernel
theorem dX10_ask_29 : decode cX10_ask 29 = .ok (.if_icmp .eq 6, 3) := by decide +kernel
theorem dX10_ask_32 : decode cX10_ask 32 = .ok (.bipush (-2), 2) := by decide +kernel
theorem dX10_ask_34 : decode cX10_ask 34 = .ok (.ireturn, 1) := by decide +kernel
theorem dX10_ask_35 : decode cX10_ask 35 = .ok (.aload_n 0, 1) := by decide +kernel
theorem dX10_ask_36 : decode cX10_ask 36 = .ok (.getfield 109, 3) := by decide +kernel
theorem dX10_ask_39 : decode cX10_ask 39 = .ok (.aload_n 0, 1) := by decide +kernel
theorem dX10_ask_40 : decode cX10_ask 40 = .ok (.getfield 246, 3) := by decide +kernel
theorem dX10_ask_43 : decode cX10_ask 43 = .ok (.iaload, 1) := by decide +kernel
theorem dX10_ask_44 : decode cX10_ask 44 = .ok (.iconst 3, 1) := by decide +kernel
theorem dX10_ask_45 : decode cX10_ask 45 = .ok (.if_icmp .eq 6, 3) := by decide +kernel
theorem dX10_ask_48 : decode cX10_ask 48 = .ok (.bipush (-3), 2) := by decide +kernel
theorem dX10_ask_50 : decode cX10_ask 50 = .ok (.ireturn, 1) := by decide +kernel
theorem dX10_ask_51 : decode cX10_ask 51 = .ok (.aload_n 0, 1) := by decide +kernel
theorem dX10_ask_52 : decode cX10_ask 52 = .ok (.getfield 246, 3) := by decide +kernel
theorem dX10_ask_55 : decode cX10_ask 55 = .ok (.iconst 2, 1) := by decide +kernel
theorem dX10_ask_56 : decode cX10_ask 56 = .ok (.aload_n 0, 1) := by decide +kernel
theorem dX10_ask_57 : decode cX10_ask 57 = .ok (.getfield 51, 3) := by decide +kernel
theorem dX10_ask_60 : decode cX10_ask 60 = .ok (.iload_n 1, 1) := by decide +kernel
theorem dX10_ask_61 : decode cX10_ask 61 = .ok (.iaload, 1) := by decide +kernel
theorem dX10_ask_62 : decode cX10_ask 62 = .ok (.imul, 1) := by decide +kernel
theorem dX10_ask_63 : decode cX10_ask 63 = .ok (.isub, 1) := by decide +kernel
theorem dX10_ask_64 : decode cX10_ask 64 = .ok (.istore_n 2, 1) := by decide +kernel
theorem dX10_ask_65 : decode cX10_ask 65 = .ok (.aload_n 0, 1) := by decide +kernel
theorem dX10_ask_66 : decode cX10_ask 66 = .ok (.getfield 246, 3) := by decide +kernel
theorem dX10_ask_69 : decode cX10_ask 69 = .ok (.aload_n 0, 1) := by decide +kernel
theorem dX10_ask_70 : decode cX10_ask 70 = .ok (.getfield 51, 3) := by decide +kernel
theorem dX10_ask_73 : decode cX10_ask 73 = .ok (.iload_n 1, 1) := by decide +kernel
theorem dX10_ask_74 : decode cX10_ask 74 = .ok (.iaload, 1) := by decide +kernel
theorem dX10_ask_75 : decode cX10_ask 75 = .ok (.isub, 1) := by decide +kernel
theorem dX10_ask_76 : decode cX10_ask 76 = .ok (.istore_n 3, 1) := by decide +kernel
theorem dX10_ask_77 : decode cX10_ask 77 = .ok (.aload_n 0, 1) := by decide +kernel
theorem dX10_ask_78 : decode cX10_ask 78 = .ok (.getfield 106, 3) := by decide +kernel
theorem dX10_ask_81 : decode cX10_ask 81 = .ok (.iload_n 3, 1) := by decide +kernel
theorem dX10_ask_82 : decode cX10_ask 82 = .ok (.iaload, 1) := by decide +kernel
theorem dX10_ask_83 : decode cX10_ask 83 = .ok (.aload_n 0, 1) := by decide +kernel
theorem dX10_ask_84 : decode cX10_ask 84 = .ok (.getfield 106, 3) := by decide +kernel
theorem dX10_ask_87 : decode cX10_ask 87 = .ok (.iload_n 2, 1) := by decide +kernel
theorem dX10_ask_88 : decode cX10_ask 88 = .ok (.iaload, 1) := by decide +kernel
theorem dX10_ask_89 : decode cX10_ask 89 = .ok (.if_icmp .le 7, 3) := by decide +kernel
theorem dX10_ask_92 : decode cX10_ask 92 = .ok (.iconst 1, 1) := by decide +kernel
theorem dX10_ask_93 : decode cX10_ask 93 = .ok (.goto 4, 3) := by decide +kernel
theorem dX10_ask_96 : decode cX10_ask 96 = .ok (.iconst 0, 1) := by decide +kernel
theorem dX10_ask_97 : decode cX10_ask 97 = .ok (.istore 4, 2) := by decide +kernel
theorem dX10_ask_99 : decode cX10_ask 99 = .ok (.aload_n 0, 1) := by decide +kernel
theorem dX10_ask_100 : decode cX10_ask 100 = .ok (.iload 4, 2) := by decide +kernel
theorem dX10_ask_102 : decode cX10_ask 102 = .ok (.iconst 1, 1) := by decide +kernel
theorem dX10_ask_103 : decode cX10_ask 103 = .ok (.if_icmp .ne 7, 3) := by decide +kernel
theorem dX10_ask_106 : decode cX10_ask 106 = .ok (.iload_n 3, 1) := by decide +kernel
theorem dX10_ask_107 : decode cX10_ask 107 = .ok (.goto 4, 3) := by decide +kernel
theorem dX10_ask_110 : decode cX10_ask 110 = .ok (.iload_n 2, 1) := by decide +kernel
theorem dX10_ask_111 : decode cX10_ask 111 = .ok (.putfield 246, 3) := by decide +kernel
theorem dX10_ask_114 : decode cX10_ask 114 = .ok (.bipush 10, 2) := by decide +kernel
theorem dX10_ask_116 : decode cX10_ask 116 = .ok (.aload_n 0, 1) := by decide +kernel
theorem dX10_ask_117 : decode cX10_ask 117 = .ok (.getfield 106, 3) := by decide +kernel
theorem dX10_ask_120 : decode cX10_ask 120 = .ok (.aload_n 0, 1) := by decide +kernel
theorem dX10_ask_121 : decode cX10_ask 121 = .ok (.getfield 246, 3) := by decide +kernel
theorem dX10_ask_124 : decode cX10_ask 124 = .ok (.iaload, 1) := by decide +kernel
theorem dX10_ask_125 : decode cX10_ask 125 = .ok (.imul, 1) := by decide +kernel
theorem dX10_ask_126 : decode cX10_ask 126 = .ok (.iload 4, 2) := by decide +kernel
theorem dX10_ask_128 : decode cX10_ask 128 = .ok (.iadd, 1) := by decide +kernel
theorem dX10_ask_129 : decode cX10_ask 129 = .ok (.ireturn, 1) := by decide +kernel
abbrev rmX10_ask : Room := { frames := 1, cells := 0, slots := 0, locals := 22 }
theorem yd_X10_ask : yX10_ask.cls = RX10 ∧ yX10_ask.cls ≠ "java/lang/invoke/MethodHandle" ∧ yX10_ask.cls ≠ "java/lang/invoke/VarHandle" ∧ (parseMethodDescriptor yX10_ask.desc).map (fun d => d.parameters.length) = some 1 := by decide +kernel
def fX10_ask_J111 (r : RS) (l4 : Int32) (s0 : Int32) : Option (Int32 × RS) :=
  (aI 6561 ((rI r 9 s0).2.1 29) ((rI r 9 s0).1 9)).bind fun v7 =>
  some ((((10 : Int32) * v7) + l4), (rI r 9 s0))
def fX10_ask_J97 (r : RS) (l2 : Int32) (l3 : Int32) (s0 : Int32) : Option (Int32 × RS) :=
  if s0 = (1 : Int32) then
    fX10_ask_J111 r s0 l3
  else
    fX10_ask_J111 r s0 l2
def fX10_ask_J32 (r : RS) : Option (Int32 × RS) :=
  some ((-2 : Int32), r)
def fX10_ask (r : RS) (a1 : Int32) : Option (Int32 × RS) :=
  if (r.1 8) = 0 then
    fX10_ask_J32 r
  else
    if a1 < 0 then
      fX10_ask_J32 r
    else
      if (r.1 8) ≤ a1 then
        fX10_ask_J32 r
      else
        (fX10_digit r (r.1 9) a1).bind fun q1 =>
        if q1 = (2 : Int32) then
          (aI 6561 (r.2.1 30) (r.1 9)).bind fun v2 =>
          if v2 = (3 : Int32) then
            (aI 9 (r.2.1 11) a1).bind fun v3 =>
            (aI 9 (r.2.1 11) a1).bind fun v4 =>
            (aI 6561 (r.2.1 29) ((r.1 9) - v4)).bind fun v5 =>
            (aI 6561 (r.2.1 29) ((r.1 9) - ((2 : Int32) * v3))).bind fun v6 =>
            if v5 ≤ v6 then
              fX10_ask_J97 r ((r.1 9) - ((2 : Int32) * v3)) ((r.1 9) - v4) (0 : Int32)
            else
              fX10_ask_J97 r ((r.1 9) - ((2 : Int32) * v3)) ((r.1 9) - v4) (1 : Int32)
          else
            some ((-3 : Int32), r)
        else
          fX10_ask_J32 r
set_option maxHeartbeats 4000000 in
set_option maxRecDepth 100000 in
theorem tX10_ask (κ : KK) (l : Launch) (o : Nat) (r : RS) (a1 : Int32) (q : Int32 × RS) (h : fX10_ask r a1 = some q) : MM κ l yX10_ask cX10_ask 5 (some .int) rmX10_ask (RA o) [.ref o, .int a1] (RB κ o r) (some (Value.int q.1)) (RB κ o q.2) := by
  refine MM.of (by decide +kernel) (Nat.le_of_ble_eq_true rfl) ?_
  intro p e s m below meth c C hnm
  have J111 : ∀ (r : RS) (l4 : Int32) (s0 : Int32), fX10_ask_J111 r l4 s0 = some q → GR κ p l e s m ([.ref o, .int a1] : List Value).toArray below meth c rmX10_ask 5 o (some (Value.int q.1)) (RB κ o q.2) r 111 [(0, .ref o), (4, .int l4)] [.int s0, .ref o] := by
    intro r l4 s0 h
    unfold fX10_ask_J111 at h
    refine R_p_gameCube (pc' := 114) C dX10_ask_111 rfl ?_
    refine G_bipush (pc' := 116) (v := (10 : Int32)) C dX10_ask_114 (by decide) rfl ?_
    refine G_aload_n (pc' := 117) C dX10_ask_116 0 rfl rfl ?_
    refine R_g_gameDepth (pc' := 120) C dX10_ask_117 rfl ?_
    refine G_aload_n (pc' := 121) C dX10_ask_120 0 rfl rfl ?_
    refine R_g_gameCube (pc' := 124) C dX10_ask_121 rfl ?_
    obtain ⟨v7, hv7, h⟩ := ob h
    refine R_l_gameDepth (pc' := 125) C dX10_ask_124 hv7 rfl ?_
    refine G_imul (pc' := 126) C dX10_ask_125 rfl ?_
    refine G_iload (pc' := 128) C dX10_ask_126 1 rfl rfl ?_
    refine G_iadd (pc' := 129) C dX10_ask_128 rfl ?_
    obtain rfl := Option.some.inj h
    exact G_iret C dX10_ask_129 (fun _ h => h)
  have J97 : ∀ (r : RS) (l2 : Int32) (l3 : Int32) (s0 : Int32), fX10_ask_J97 r l2 l3 s0 = some q → GR κ p l e s m ([.ref o, .int a1] : List Value).toArray below meth c rmX10_ask 5 o (some (Value.int q.1)) (RB κ o q.2) r 97 [(0, .ref o), (2, .int l2), (3, .int l3)] [.int s0] := by
    intro r l2 l3 s0 h
    unfold fX10_ask_J97 at h
    refine G_istore (pc' := 99) C dX10_ask_97 [(4, .int s0), (0, .ref o), (2, .int l2), (3, .int l3)] (by decide) rfl rfl ?_
    refine G_aload_n (pc' := 100) C dX10_ask_99 1 rfl rfl ?_
    refine G_iload (pc' := 102) C dX10_ask_100 0 rfl rfl ?_
    refine G_iconst (pc' := 103) (v := (1 : Int32)) C dX10_ask_102 (by decide) rfl ?_
    refine G_icmp_ne (tgt := 110) (pc' := 106) C dX10_ask_103 (by decide) rfl (fun hc => ?_) (fun hc => ?_)
    · replace h := z_in hc h
      refine G_iload_n (pc' := 111) C dX10_ask_110 2 rfl rfl ?_
      exact G_sub (lv' := [(0, .ref o), (4, .int s0)]) [1, 0] rfl (J111 r s0 l2 h)
    · replace h := z_ip hc h
      refine G_iload_n (pc' := 107) C dX10_ask_106 3 rfl rfl ?_
      refine G_goto (tgt := 111) C dX10_ask_107 (by decide) ?_
      exact G_sub (lv' := [(0, .ref o), (4, .int s0)]) [1, 0] rfl (J111 r s0 l3 h)
  have J32 : ∀ (r : RS), fX10_ask_J32 r = some q → GR κ p l e s m ([.ref o, .int a1] : List Value).toArray below meth c rmX10_ask 5 o (some (Value.int q.1)) (RB κ o q.2) r 32 [] [] := by
    intro r h
    unfold fX10_ask_J32 at h
    refine G_bipush (pc' := 34) (v := (-2 : Int32)) C dX10_ask_32 (by decide) rfl ?_
    obtain rfl := Option.some.inj h
    exact G_iret C dX10_ask_34 (fun _ h => h)
  unfold fX10_ask at h
  refine G_sub (lv' := [(0, .ref o), (1, .int a1)]) [0, 1] rfl ?_
  refine G_aload_n (pc' := 1) C dX10_ask_0 0 rfl rfl ?_
  refine R_g_gameBits (pc' := 4) C dX10_ask_1 rfl ?_
  refine G_if_eq (tgt := 32) (pc' := 7) C dX10_ask_4 (by decide) rfl (fun hc => ?_) (fun hc => ?_)
  · replace h := z_ip hc h
    exact G_sub (lv' := []) [] rfl (J32 r h)
  · replace h := z_in hc h
    refine G_iload_n (pc' := 8) C dX10_ask_7 1 rfl rfl ?_
    refine G_if_lt (tgt := 32) (pc' := 11) C dX10_ask_8 (by decide) rfl (fun hc => ?_) (fun hc => ?_)
    · replace h := z_ip hc h
      exact G_sub (lv' := []) [] rfl (J32 r h)
    · replace h := z_in hc h
      refine G_iload_n (pc' := 12) C dX10_ask_11 1 rfl rfl ?_
      refine G_aload_n (pc' := 13) C dX10_ask_12 0 rfl rfl ?_
      refine R_g_gameBits (pc' := 16) C dX10_ask_13 rfl ?_
      refine G_icmp_ge (tgt := 32) (pc' := 19) C dX10_ask_16 (by decide) rfl (fun hc => ?_) (fun hc => ?_)
      · replace h := z_ip hc h
        exact G_sub (lv' := []) [] rfl (J32 r h)
      · replace h := z_in hc h
        refine G_aload_n (pc' := 20) C dX10_ask_19 0 rfl rfl ?_
        refine G_aload_n (pc' := 21) C dX10_ask_20 0 rfl rfl ?_
        refine R_g_gameCube (pc' := 24) C dX10_ask_21 rfl ?_
        refine G_iload_n (pc' := 25) C dX10_ask_24 1 rfl rfl ?_
        obtain ⟨q1, hq1, h⟩ := ob h
        refine G_cV0 (pc' := 28) C dX10_ask_25 (tX10_digit κ l o r (r.1 9) a1 q1 hq1) (wV tw_ml_X10_173 tw_im_X10_digit tw_se_X10_X10_digit tw_in_X10 tw_co_X10_digit) yd_X10_digit rfl fi_X10 (RB_rd 0 rfl) rfl rfl (by decide) rfl (Nat.le_of_ble_eq_true rfl) rfl rfl ?_
        refine G_iconst (pc' := 29) (v := (2 : Int32)) C dX10_ask_28 (by decide) rfl ?_
        refine G_icmp_eq (tgt := 35) (pc' := 32) C dX10_ask_29 (by decide) rfl (fun hc => ?_) (fun hc => ?_)
        · replace h := z_ip hc h
          refine G_aload_n (pc' := 36) C dX10_ask_35 0 rfl rfl ?_
          refine R_g_gameHas (pc' := 39) C dX10_ask_36 rfl ?_
          refine G_aload_n (pc' := 40) C dX10_ask_39 0 rfl rfl ?_
          refine R_g_gameCube (pc' := 43) C dX10_ask_40 rfl ?_
          obtain ⟨v2, hv2, h⟩ := ob h
          refine R_l_gameHas (pc' := 44) C dX10_ask_43 hv2 rfl ?_
          refine G_iconst (pc' := 45) (v := (3 : Int32)) C dX10_ask_44 (by decide) rfl ?_
          refine G_icmp_eq (tgt := 51) (pc' := 48) C dX10_ask_45 (by decide) rfl (fun hc => ?_) (fun hc => ?_)
          · replace h := z_ip hc h
            refine G_aload_n (pc' := 52) C dX10_ask_51 0 rfl rfl ?_
            refine R_g_gameCube (pc' := 55) C dX10_ask_52 rfl ?_
            refine G_iconst (pc' := 56) (v := (2 : Int32)) C dX10_ask_55 (by decide) rfl ?_
            refine G_aload_n (pc' := 57) C dX10_ask_56 0 rfl rfl ?_
            refine R_g_power (pc' := 60) C dX10_ask_57 rfl ?_
            refine G_iload_n (pc' := 61) C dX10_ask_60 1 rfl rfl ?_
            obtain ⟨v3, hv3, h⟩ := ob h
            refine R_l_power (pc' := 62) C dX10_ask_61 hv3 rfl ?_
            refine G_imul (pc' := 63) C dX10_ask_62 rfl ?_
            refine G_isub (pc' := 64) C dX10_ask_63 rfl ?_
            refine G_istore_n (pc' := 65) C dX10_ask_64 [(2, .int ((r.1 9) - ((2 : Int32) * v3))), (0, .ref o), (1, .int a1)] (by decide) rfl rfl ?_
            refine G_aload_n (pc' := 66) C dX10_ask_65 1 rfl rfl ?_
            refine R_g_gameCube (pc' := 69) C dX10_ask_66 rfl ?_
            refine G_aload_n (pc' := 70) C dX10_ask_69 1 rfl rfl ?_
            refine R_g_power (pc' := 73) C dX10_ask_70 rfl ?_
            refine G_iload_n (pc' := 74) C dX10_ask_73 2 rfl rfl ?_
            obtain ⟨v4, hv4, h⟩ := ob h
            refine R_l_power (pc' := 75) C dX10_ask_74 hv4 rfl ?_
            refine G_isub (pc' := 76) C dX10_ask_75 rfl ?_
            refine G_istore_n (pc' := 77) C dX10_ask_76 [(3, .int ((r.1 9) - v4)), (2, .int ((r.1 9) - ((2 : Int32) * v3))), (0, .ref o), (1, .int a1)] (by decide) rfl rfl ?_
            refine G_aload_n (pc' := 78) C dX10_ask_77 2 rfl rfl ?_
            refine R_g_gameDepth (pc' := 81) C dX10_ask_78 rfl ?_
            refine G_iload_n (pc' := 82) C dX10_ask_81 0 rfl rfl ?_
            obtain ⟨v5, hv5, h⟩ := ob h
            refine R_l_gameDepth (pc' := 83) C dX10_ask_82 hv5 rfl ?_
            refine G_aload_n (pc' := 84) C dX10_ask_83 2 rfl rfl ?_
            refine R_g_gameDepth (pc' := 87) C dX10_ask_84 rfl ?_
            refine G_iload_n (pc' := 88) C dX10_ask_87 1 rfl rfl ?_
            obtain ⟨v6, hv6, h⟩ := ob h
            refine R_l_gameDepth (pc' := 89) C dX10_ask_88 hv6 rfl ?_
            refine G_icmp_le (tgt := 96) (pc' := 92) C dX10_ask_89 (by decide) rfl (fun hc => ?_) (fun hc => ?_)
            · replace h := z_ip hc h
              refine G_iconst (pc' := 97) (v := (0 : Int32)) C dX10_ask_96 (by decide) rfl ?_
              exact G_sub (lv' := [(0, .ref o), (2, .int ((r.1 9) - ((2 : Int32) * v3))), (3, .int ((r.1 9) - v4))]) [2, 1, 0] rfl (J97 r ((r.1 9) - ((2 : Int32) * v3)) ((r.1 9) - v4) (0 : Int32) h)
            · replace h := z_in hc h
              refine G_iconst (pc' := 93) (v := (1 : Int32)) C dX10_ask_92 (by decide) rfl ?_
              refine G_goto (tgt := 97) C dX10_ask_93 (by decide) ?_
              exact G_sub (lv' := [(0, .ref o), (2, .int ((r.1 9) - ((2 : Int32) * v3))), (3, .int ((r.1 9) - v4))]) [2, 1, 0] rfl (J97 r ((r.1 9) - ((2 : Int32) * v3)) ((r.1 9) - v4) (1 : Int32) h)
          · replace h := z_in hc h
            refine G_bipush (pc' := 50) (v := (-3 : Int32)) C dX10_ask_48 (by decide) rfl ?_
            obtain rfl := Option.some.inj h
            exact G_iret C dX10_ask_50 (fun _ h => h)
        · replace h := z_in hc h
          exact G_sub (lv' := []) [] rfl (J32 r h)
theorem dX10_tasks_0 : decode cX10_tasks 0 = .ok (.iconst 0, 1) := by decide +kernel
theorem dX10_tasks_1 : decode cX10_tasks 1 = .ok (.istore_n 1, 1) := by decide +kernel
theorem dX10_tasks_2 : decode cX10_tasks 2 = .ok (.iconst 0, 1) := by decide +kernel
theorem dX10_tasks_3 : decode cX10_tasks 3 = .ok (.istore_n 2, 1) := by decide +kernel
theorem dX10_tasks_4 : decode cX10_tasks 4 = .ok (.iload_n 2, 1) := by decide +kernel
theorem dX10_tasks_5 : decode cX10_tasks 5 = .ok (.bipush 8, 2) := by decide +kernel
theorem dX10_tasks_7 : decode cX10_tasks 7 = .ok (.if_icmp .ge 26, 3) := by decide +kernel
theorem dX10_tasks_10 : decode cX10_tasks 10 = .ok (.iload_n 1, 1) := by decide +kernel
theorem dX10_tasks_11 : decode cX10_tasks 11 = .ok (.aload_n 0, 1) := by decide +kernel
theorem dX10_tasks_12 : decode cX10_tasks 12 = .ok (.getfield 7, 3) := by decide +kernel
theorem dX10_tasks_15 : decode cX10_tasks 15 = .ok (.iload_n 2, 1) := by decide +kernel
theorem dX10_tasks_16 : decode cX10_tasks 16 = .ok (.iaload, 1) := by decide +kernel
theorem dX10_tasks_17 : decode cX10_tasks 17 = .ok (.ifCond .le 7, 3) := by decide +kernel
theorem dX10_tasks_20 : decode cX10_tasks 20 = .ok (.iconst 1, 1) := by decide +kernel
theorem dX10_tasks_21 : decode cX10_tasks 21 = .ok (.goto 4, 3) := by decide +kernel
theorem dX10_tasks_24 : decode cX10_tasks 24 = .ok (.iconst 0, 1) := by decide +kernel
theorem dX10_tasks_25 : decode cX10_tasks 25 = .ok (.iadd, 1) := by decide +kernel
theorem dX10_tasks_26 : decode cX10_tasks 26 = .ok (.istore_n 1, 1) := by decide +kernel
theorem dX10_tasks_27 : decode cX10_tasks 27 = .ok (.iinc 2 1, 3) := by decide +kernel
theorem dX10_tasks_30 : decode cX10_tasks 30 = .ok (.goto (-26), 3) := by decide +kernel
theorem dX10_tasks_33 : decode cX10_tasks 33 = .ok (.iload_n 1, 1) := by decide +kernel
theorem dX10_tasks_34 : decode cX10_tasks 34 = .ok (.ireturn, 1) := by decide +kernel
abbrev rmX10_tasks : Room := { frames := 0, cells := 0, slots := 0, locals := 0 }
theorem yd_X10_tasks : yX10_tasks.cls = RX10 ∧ yX10_tasks.cls ≠ "java/lang/invoke/MethodHandle" ∧ yX10_tasks.cls ≠ "java/lang/invoke/VarHandle" ∧ (parseMethodDescriptor yX10_tasks.desc).map (fun d => d.parameters.length) = some 0 := by decide +kernel
def fX10_tasks_L4_J25 (r : RS) (l2 : Int32) (s0 : Int32) (s1 : Int32) : Option ((Int32 × Int32) ⊕ Int32) :=
  some (.inl ((s1 + s0), (l2 + (1 : Int32))))
def fX10_tasks_L4 (r : RS) (l1 : Int32) (l2 : Int32) : Option ((Int32 × Int32) ⊕ Int32) :=
  if (8 : Int32) ≤ l2 then
    some (.inr l1)
  else
    (aI 16 (r.2.1 0) l2).bind fun v1 =>
    if v1 ≤ 0 then
      fX10_tasks_L4_J25 r l2 (0 : Int32) l1
    else
      fX10_tasks_L4_J25 r l2 (1 : Int32) l1
def fX10_tasks (r : RS) : Option (Int32) :=
  (lpN (fun u => fX10_tasks_L4 r u.1 u.2) bigN ((0 : Int32), (0 : Int32))).bind fun e2 =>
  some e2
set_option maxHeartbeats 4000000 in
set_option maxRecDepth 100000 in
theorem tX10_tasks_L4 {κ : KK} {p : Program} {l : Launch} {e : Env} {s : State} {m : MethodId} {args : Array Value} {below : List Frame} {meth : Method} {c : Code} (C : Cx κ p s m args meth c cX10_tasks 3 RX10 (some .int)) {o : Nat} {v : Option Value} {B' : Heap → Prop} {r : RS} {l1 : Int32} {l2 : Int32} {y : (Int32 × Int32) ⊕ Int32} (h : fX10_tasks_L4 r l1 l2 = some y) (kc : ∀ u, y = .inl u → GR κ p l e s m args below meth c rmX10_tasks 3 o v B' r 4 [(0, .ref o), (1, .int u.1), (2, .int u.2)] []) (kx : ∀ w, y = .inr w → GR κ p l e s m args below meth c rmX10_tasks 3 o v B' r 33 [(1, .int w)] []) : GR κ p l e s m args below meth c rmX10_tasks 3 o v B' r 4 [(0, .ref o), (1, .int l1), (2, .int l2)] [] := by
  have J25 : ∀ (l2 : Int32) (s0 : Int32) (s1 : Int32), fX10_tasks_L4_J25 r l2 s0 s1 = some y → GR κ p l e s m args below meth c rmX10_tasks 3 o v B' r 25 [(0, .ref o), (2, .int l2)] [.int s0, .int s1] := by
    intro l2 s0 s1 h
    unfold fX10_tasks_L4_J25 at h
    refine G_iadd (pc' := 26) C dX10_tasks_25 rfl ?_
    refine G_istore_n (pc' := 27) C dX10_tasks_26 [(1, .int (s1 + s0)), (0, .ref o), (2, .int l2)] (by decide) rfl rfl ?_
    refine G_iinc (pc' := 30) C dX10_tasks_27 2 rfl rfl [(2, .int (l2 + (1 : Int32))), (1, .int (s1 + s0)), (0, .ref o)] (by decide) rfl rfl ?_
    refine G_goto (tgt := 4) C dX10_tasks_30 (by decide) ?_
    exact G_sub (lv' := [(0, .ref o), (1, .int (s1 + s0)), (2, .int (l2 + (1 : Int32)))]) [2, 1, 0] rfl (kc ((s1 + s0), (l2 + (1 : Int32))) (Option.some.inj h).symm)
  unfold fX10_tasks_L4 at h
  refine G_iload_n (pc' := 5) C dX10_tasks_4 2 rfl rfl ?_
  refine G_bipush (pc' := 7) (v := (8 : Int32)) C dX10_tasks_5 (by decide) rfl ?_
  refine G_icmp_ge (tgt := 33) (pc' := 10) C dX10_tasks_7 (by decide) rfl (fun hc => ?_) (fun hc => ?_)
  · replace h := z_ip hc h
    exact G_sub (lv' := [(1, .int l1)]) [1] rfl (kx _ (Option.some.inj h).symm)
  · replace h := z_in hc h
    refine G_iload_n (pc' := 11) C dX10_tasks_10 1 rfl rfl ?_
    refine G_aload_n (pc' := 12) C dX10_tasks_11 0 rfl rfl ?_
    refine R_g_bits (pc' := 15) C dX10_tasks_12 rfl ?_
    refine G_iload_n (pc' := 16) C dX10_tasks_15 2 rfl rfl ?_
    obtain ⟨v1, hv1, h⟩ := ob h
    refine R_l_bits (pc' := 17) C dX10_tasks_16 hv1 rfl ?_
    refine G_if_le (tgt := 24) (pc' := 20) C dX10_tasks_17 (by decide) rfl (fun hc => ?_) (fun hc => ?_)
    · replace h := z_ip hc h
      refine G_iconst (pc' := 25) (v := (0 : Int32)) C dX10_tasks_24 (by decide) rfl ?_
      exact G_sub (lv' := [(0, .ref o), (2, .int l2)]) [0, 2] rfl (J25 l2 (0 : Int32) l1 h)
    · replace h := z_in hc h
      refine G_iconst (pc' := 21) (v := (1 : Int32)) C dX10_tasks_20 (by decide) rfl ?_
      refine G_goto (tgt := 25) C dX10_tasks_21 (by decide) ?_
      exact G_sub (lv' := [(0, .ref o), (2, .int l2)]) [0, 2] rfl (J25 l2 (1 : Int32) l1 h)
set_option maxHeartbeats 4000000 in
set_option maxRecDepth 100000 in
theorem tX10_tasks (κ : KK) (l : Launch) (o : Nat) (r : RS) (q : Int32) (h : fX10_tasks r = some q) : MM κ l yX10_tasks cX10_tasks 3 (some .int) rmX10_tasks (RA o) [.ref o] (RB κ o r) (some (Value.int q)) (RB κ o r) := by
  refine MM.of (by decide +kernel) (Nat.le_of_ble_eq_true rfl) ?_
  intro p e s m below meth c C hnm
  unfold fX10_tasks at h
  refine G_sub (lv' := [(0, .ref o)]) [0] rfl ?_
  refine G_iconst (pc' := 1) (v := (0 : Int32)) C dX10_tasks_0 (by decide) rfl ?_
  refine G_istore_n (pc' := 2) C dX10_tasks_1 [(1, .int (0 : Int32)), (0, .ref o)] (by decide) rfl rfl ?_
  refine G_iconst (pc' := 3) (v := (0 : Int32)) C dX10_tasks_2 (by decide) rfl ?_
  refine G_istore_n (pc' := 4) C dX10_tasks_3 [(2, .int (0 : Int32)), (1, .int (0 : Int32)), (0, .ref o)] (by decide) rfl rfl ?_
  obtain ⟨e2, hle2, h⟩ := ob h
  refine G_sub (lv' := [(0, .ref o), (1, .int (0 : Int32)), (2, .int (0 : Int32))]) [2, 1, 0] rfl ?_
  refine lpN_ind (body := fun u => fX10_tasks_L4 r u.1 u.2) (P := fun u => GR κ p l e s m ([.ref o] : List Value).toArray below meth c rmX10_tasks 3 o (some (Value.int q)) (RB κ o r) r 4 [(0, .ref o), (1, .int u.1), (2, .int u.2)] []) (X := fun w => GR κ p l e s m ([.ref o] : List Value).toArray below meth c rmX10_tasks 3 o (some (Value.int q)) (RB κ o r) r 33 [(1, .int w)] []) (fun u y hb kc kx => tX10_tasks_L4 C hb kc kx) _ _ _ hle2 ?_
  refine G_iload_n (pc' := 34) C dX10_tasks_33 0 rfl rfl ?_
  obtain rfl := Option.some.inj h
  exact G_iret C dX10_tasks_34 (fun _ h => h)
theorem dX10_keep_0 : decode cX10_keep 0 = .ok (.iconst 0, 1) := by decide +kernel
theorem dX10_keep_1 : decode cX10_keep 1 = .ok (.istore_n 1, 1) := by decide +kernel
theorem dX10_keep_2 : decode cX10_keep 2 = .ok (.iload_n 1, 1) := by decide +kernel
theorem dX10_keep_3 : decode cX10_keep 3 = .ok (.bipush 8, 2) := by decide +kernel
theorem dX10_keep_5 : decode cX10_keep 5 = .ok (.if_icmp .ge 18, 3) := by decide +kernel
theorem dX10_keep_8 : decode cX10_keep 8 = .ok (.aload_n 0, 1) := by decide +kernel
theorem dX10_keep_9 : decode cX10_keep 9 = .ok (.iload_n 1, 1) := by decide +kernel
theorem dX10_keep_10 : decode cX10_keep 10 = .ok (.bipush 8, 2) := by decide +kernel
theorem dX10_keep_12 : decode cX10_keep 12 = .ok (.iload_n 1, 1) := by decide +kernel
theorem dX10_keep_13 : decode cX10_keep 13 = .ok (.iadd, 1) := by decide +kernel
theorem dX10_keep_14 : decode cX10_keep 14 = .ok (.invokevirtual 155, 3) := by decide +kernel
theorem dX10_keep_17 : decode cX10_keep 17 = .ok (.iinc 1 1, 3) := by decide +kernel
theorem dX10_keep_20 : decode cX10_keep 20 = .ok (.goto (-18), 3) := by decide +kernel
theorem dX10_keep_23 : decode cX10_keep 23 = .ok (.aload_n 0, 1) := by decide +kernel
theorem dX10_keep_24 : decode cX10_keep 24 = .ok (.iconst 1, 1) := by decide +kernel
theorem dX10_keep_25 : decode cX10_keep 25 = .ok (.putfield 249, 3) := by decide +kernel
theorem dX10_keep_28 : decode cX10_keep 28 = .ok (.aload_n 0, 1) := by decide +kernel
theorem dX10_keep_29 : decode cX10_keep 29 = .ok (.invokevirtual 253, 3) := by decide +kernel
theorem dX10_keep_32 : decode cX10_keep 32 = .ok (.ireturn, 1) := by decide +kernel
abbrev rmX10_keep : Room := { frames := 1, cells := 0, slots := 0, locals := 23 }
theorem yd_X10_keep : yX10_keep.cls = RX10 ∧ yX10_keep.cls ≠ "java/lang/invoke/MethodHandle" ∧ yX10_keep.cls ≠ "java/lang/invoke/VarHandle" ∧ (parseMethodDescriptor yX10_keep.desc).map (fun d => d.parameters.length) = some 0 := by decide +kernel
def fX10_keep_L2 (r : RS) (l1 : Int32) : Option ((Int32 × RS) ⊕ RS) :=
  if (8 : Int32) ≤ l1 then
    some (.inr r)
  else
    (fX10_take r l1 ((8 : Int32) + l1)).bind fun q1 =>
    some (.inl ((l1 + (1 : Int32)), q1))
def fX10_keep (r : RS) : Option (Int32 × RS) :=
  (lpN (fun u => fX10_keep_L2 u.2 u.1) bigN ((0 : Int32), r)).bind fun e2 =>
  (fX10_tasks (rI e2 0 (1 : Int32)) ).bind fun q3 =>
  some (q3, (rI e2 0 (1 : Int32)))
set_option maxHeartbeats 4000000 in
set_option maxRecDepth 100000 in
theorem tX10_keep_L2 {κ : KK} {p : Program} {l : Launch} {e : Env} {s : State} {m : MethodId} {args : Array Value} {below : List Frame} {meth : Method} {c : Code} (C : Cx κ p s m args meth c cX10_keep 2 RX10 (some .int)) {o : Nat} {v : Option Value} {B' : Heap → Prop} {r : RS} {l1 : Int32} {y : (Int32 × RS) ⊕ RS} (h : fX10_keep_L2 r l1 = some y) (kc : ∀ u, y = .inl u → GR κ p l e s m args below meth c rmX10_keep 2 o v B' u.2 2 [(0, .ref o), (1, .int u.1)] []) (kx : ∀ w, y = .inr w → GR κ p l e s m args below meth c rmX10_keep 2 o v B' w 23 [(0, .ref o)] []) : GR κ p l e s m args below meth c rmX10_keep 2 o v B' r 2 [(0, .ref o), (1, .int l1)] [] := by
  unfold fX10_keep_L2 at h
  refine G_iload_n (pc' := 3) C dX10_keep_2 1 rfl rfl ?_
  refine G_bipush (pc' := 5) (v := (8 : Int32)) C dX10_keep_3 (by decide) rfl ?_
  refine G_icmp_ge (tgt := 23) (pc' := 8) C dX10_keep_5 (by decide) rfl (fun hc => ?_) (fun hc => ?_)
  · replace h := z_ip hc h
    exact G_sub (lv' := [(0, .ref o)]) [0] rfl (kx _ (Option.some.inj h).symm)
  · replace h := z_in hc h
    refine G_aload_n (pc' := 9) C dX10_keep_8 0 rfl rfl ?_
    refine G_iload_n (pc' := 10) C dX10_keep_9 1 rfl rfl ?_
    refine G_bipush (pc' := 12) (v := (8 : Int32)) C dX10_keep_10 (by decide) rfl ?_
    refine G_iload_n (pc' := 13) C dX10_keep_12 1 rfl rfl ?_
    refine G_iadd (pc' := 14) C dX10_keep_13 rfl ?_
    obtain ⟨q1, hq1, h⟩ := ob h
    refine G_cV0 (pc' := 17) C dX10_keep_14 (tX10_take κ l o r l1 ((8 : Int32) + l1) q1 hq1) (wV tw_ml_X10_155 tw_im_X10_take tw_se_X10_X10_take tw_in_X10 tw_co_X10_take) yd_X10_take rfl fi_X10 (RB_rd 0 rfl) rfl rfl (by decide) rfl (Nat.le_of_ble_eq_true rfl) rfl rfl ?_
    refine G_iinc (pc' := 20) C dX10_keep_17 1 rfl rfl [(1, .int (l1 + (1 : Int32))), (0, .ref o)] (by decide) rfl rfl ?_
    refine G_goto (tgt := 2) C dX10_keep_20 (by decide) ?_
    exact G_sub (lv' := [(0, .ref o), (1, .int (l1 + (1 : Int32)))]) [1, 0] rfl (kc ((l1 + (1 : Int32)), q1) (Option.some.inj h).symm)
set_option maxHeartbeats 4000000 in
set_option maxRecDepth 100000 in
theorem tX10_keep (κ : KK) (l : Launch) (o : Nat) (r : RS) (q : Int32 × RS) (h : fX10_keep r = some q) : MM κ l yX10_keep cX10_keep 2 (some .int) rmX10_keep (RA o) [.ref o] (RB κ o r) (some (Value.int q.1)) (RB κ o q.2) := by
  refine MM.of (by decide +kernel) (Nat.le_of_ble_eq_true rfl) ?_
  intro p e s m below meth c C hnm
  unfold fX10_keep at h
  refine G_sub (lv' := [(0, .ref o)]) [0] rfl ?_
  refine G_iconst (pc' := 1) (v := (0 : Int32)) C dX10_keep_0 (by decide) rfl ?_
  refine G_istore_n (pc' := 2) C dX10_keep_1 [(1, .int (0 : Int32)), (0, .ref o)] (by decide) rfl rfl ?_
  obtain ⟨e2, hle2, h⟩ := ob h
  refine G_sub (lv' := [(0, .ref o), (1, .int (0 : Int32))]) [1, 0] rfl ?_
  refine lpN_ind (body := fun u => fX10_keep_L2 u.2 u.1) (P := fun u => GR κ p l e s m ([.ref o] : List Value).toArray below meth c rmX10_keep 2 o (some (Value.int q.1)) (RB κ o q.2) u.2 2 [(0, .ref o), (1, .int u.1)] []) (X := fun w => GR κ p l e s m ([.ref o] : List Value).toArray below meth c rmX10_keep 2 o (some (Value.int q.1)) (RB κ o q.2) w 23 [(0, .ref o)] []) (fun u y hb kc kx => tX10_keep_L2 C hb kc kx) _ _ _ hle2 ?_
  refine G_aload_n (pc' := 24) C dX10_keep_23 0 rfl rfl ?_
  refine G_iconst (pc' := 25) (v := (1 : Int32)) C dX10_keep_24 (by decide) rfl ?_
  refine R_p_isKept (pc' := 28) C dX10_keep_25 rfl rfl rfl ?_
  refine G_aload_n (pc' := 29) C dX10_keep_28 0 rfl rfl ?_
  obtain ⟨q3, hq3, h⟩ := ob h
  refine G_cV0 (pc' := 32) C dX10_keep_29 (tX10_tasks κ l o (rI e2 0 (1 : Int32))  q3 hq3) (wV tw_ml_X10_253 tw_im_X10_tasks tw_se_X10_X10_tasks tw_in_X10 tw_co_X10_tasks) yd_X10_tasks rfl fi_X10 (RB_rd 0 rfl) rfl rfl (by decide) rfl (Nat.le_of_ble_eq_true rfl) rfl rfl ?_
  obtain rfl := Option.some.inj h
  exact G_iret C dX10_keep_32 (fun _ h => h)
theorem dX10_back_0 : decode cX10_back 0 = .ok (.aload_n 0, 1) := by decide +kernel
theorem dX10_back_1 : decode cX10_back 1 = .ok (.getfield 249, 3) := by decide +kernel
theorem dX10_back_4 : decode cX10_back 4 = .ok (.ifCond .ne 10, 3) := by decide +kernel
theorem dX10_back_7 : decode cX10_back 7 = .ok (.aload_n 0, 1) := by decide +kernel
theorem dX10_back_8 : decode cX10_back 8 = .ok (.bipush (-10), 2) := by decide +kernel
theorem dX10_back_10 : decode cX10_back 10 = .ok (.invokevirtual 136, 3) := by decide +kernel
theorem dX10_back_13 : decode cX10_back 13 = .ok (.ireturn, 1) := by decide +kernel
theorem dX10_back_14 : decode cX10_back 14 = .ok (.iconst 0, 1) := by decide +kernel
theorem dX10_back_15 : decode cX10_back 15 = .ok (.istore_n 1, 1) := by decide +kernel
theorem dX10_back_16 : decode cX10_back 16 = .ok (.iload_n 1, 1) := by decide +kernel
theorem dX10_back_17 : decode cX10_back 17 = .ok (.bipush 8, 2) := by decide +kernel
theorem dX10_back_19 : decode cX10_back 19 = .ok (.if_icmp .ge 18, 3) := by decide +kernel
theorem dX10_back_22 : decode cX10_back 22 = .ok (.aload_n 0, 1) := by decide +kernel
theorem dX10_back_23 : decode cX10_back 23 = .ok (.bipush 8, 2) := by decide +kernel
theorem dX10_back_25 : decode cX10_back 25 = .ok (.iload_n 1, 1) := by decide +kernel
theorem dX10_back_26 : decode cX10_back 26 = .ok (.iadd, 1) := by decide +kernel
theorem dX10_back_27 : decode cX10_back 27 = .ok (.iload_n 1, 1) := by decide +kernel
theorem dX10_back_28 : decode cX10_back 28 = .ok (.invokevirtual 155, 3) := by decide +kernel
theorem dX10_back_31 : decode cX10_back 31 = .ok (.iinc 1 1, 3) := by decide +kernel
theorem dX10_back_34 : decode cX10_back 34 = .ok (.goto (-18), 3) := by decide +kernel
theorem dX10_back_37 : decode cX10_back 37 = .ok (.aload_n 0, 1) := by decide +kernel
theorem dX10_back_38 : decode cX10_back 38 = .ok (.invokevirtual 253, 3) := by decide +kernel
theorem dX10_back_41 : decode cX10_back 41 = .ok (.ireturn, 1) := by decide +kernel
abbrev rmX10_back : Room := { frames := 1, cells := 0, slots := 0, locals := 23 }
theorem yd_X10_back : yX10_back.cls = RX10 ∧ yX10_back.cls ≠ "java/lang/invoke/MethodHandle" ∧ yX10_back.cls ≠ "java/lang/invoke/VarHandle" ∧ (parseMethodDescriptor yX10_back.desc).map (fun d => d.parameters.length) = some 0 := by decide +kernel
def fX10_back_L16 (r : RS) (l1 : Int32) : Option ((Int32 × RS) ⊕ RS) :=
  if (8 : Int32) ≤ l1 then
    some (.inr r)
  else
    (fX10_take r ((8 : Int32) + l1) l1).bind fun q1 =>
    some (.inl ((l1 + (1 : Int32)), q1))
def fX10_back (r : RS) : Option (Int32 × RS) :=
  if (r.1 0) = 0 then
    (fX10_meet r (-10 : Int32)).bind fun q4 =>
    some (q4.1, q4.2)
  else
    (lpN (fun u => fX10_back_L16 u.2 u.1) bigN ((0 : Int32), r)).bind fun e2 =>
    (fX10_tasks e2 ).bind fun q3 =>
    some (q3, e2)
set_option maxHeartbeats 4000000 in
set_option maxRecDepth 100000 in
theorem tX10_back_L16 {κ : KK} {p : Program} {l : Launch} {e : Env} {s : State} {m : MethodId} {args : Array Value} {below : List Frame} {meth : Method} {c : Code} (C : Cx κ p s m args meth c cX10_back 2 RX10 (some .int)) {o : Nat} {v : Option Value} {B' : Heap → Prop} {r : RS} {l1 : Int32} {y : (Int32 × RS) ⊕ RS} (h : fX10_back_L16 r l1 = some y) (kc : ∀ u, y = .inl u → GR κ p l e s m args below meth c rmX10_back 2 o v B' u.2 16 [(0, .ref o), (1, .int u.1)] []) (kx : ∀ w, y = .inr w → GR κ p l e s m args below meth c rmX10_back 2 o v B' w 37 [(0, .ref o)] []) : GR κ p l e s m args below meth c rmX10_back 2 o v B' r 16 [(0, .ref o), (1, .int l1)] [] := by
  unfold fX10_back_L16 at h
  refine G_iload_n (pc' := 17) C dX10_back_16 1 rfl rfl ?_
  refine G_bipush (pc' := 19) (v := (8 : Int32)) C dX10_back_17 (by decide) rfl ?_
  refine G_icmp_ge (tgt := 37) (pc' := 22) C dX10_back_19 (by decide) rfl (fun hc => ?_) (fun hc => ?_)
  · replace h := z_ip hc h
    exact G_sub (lv' := [(0, .ref o)]) [0] rfl (kx _ (Option.some.inj h).symm)
  · replace h := z_in hc h
    refine G_aload_n (pc' := 23) C dX10_back_22 0 rfl rfl ?_
    refine G_bipush (pc' := 25) (v := (8 : Int32)) C dX10_back_23 (by decide) rfl ?_
    refine G_iload_n (pc' := 26) C dX10_back_25 1 rfl rfl ?_
    refine G_iadd (pc' := 27) C dX10_back_26 rfl ?_
    refine G_iload_n (pc' := 28) C dX10_back_27 1 rfl rfl ?_
    obtain ⟨q1, hq1, h⟩ := ob h
    refine G_cV0 (pc' := 31) C dX10_back_28 (tX10_take κ l o r ((8 : Int32) + l1) l1 q1 hq1) (wV tw_ml_X10_155 tw_im_X10_take tw_se_X10_X10_take tw_in_X10 tw_co_X10_take) yd_X10_take rfl fi_X10 (RB_rd 0 rfl) rfl rfl (by decide) rfl (Nat.le_of_ble_eq_true rfl) rfl rfl ?_
    refine G_iinc (pc' := 34) C dX10_back_31 1 rfl rfl [(1, .int (l1 + (1 : Int32))), (0, .ref o)] (by decide) rfl rfl ?_
    refine G_goto (tgt := 16) C dX10_back_34 (by decide) ?_
    exact G_sub (lv' := [(0, .ref o), (1, .int (l1 + (1 : Int32)))]) [1, 0] rfl (kc ((l1 + (1 : Int32)), q1) (Option.some.inj h).symm)
set_option maxHeartbeats 4000000 in
set_option maxRecDepth 100000 in
theorem tX10_back (κ : KK) (l : Launch) (o : Nat) (r : RS) (q : Int32 × RS) (h : fX10_back r = some q) : MM κ l yX10_back cX10_back 2 (some .int) rmX10_back (RA o) [.ref o] (RB κ o r) (some (Value.int q.1)) (RB κ o q.2) := by
  refine MM.of (by decide +kernel) (Nat.le_of_ble_eq_true rfl) ?_
  intro p e s m below meth c C hnm
  unfold fX10_back at h
  refine G_sub (lv' := [(0, .ref o)]) [0] rfl ?_
  refine G_aload_n (pc' := 1) C dX10_back_0 0 rfl rfl ?_
  refine R_g_isKept (pc' := 4) C dX10_back_1 rfl ?_
  refine G_if_ne (tgt := 14) (pc' := 7) C dX10_back_4 (by decide) rfl (fun hc => ?_) (fun hc => ?_)
  · replace h := z_in hc h
    refine G_iconst (pc' := 15) (v := (0 : Int32)) C dX10_back_14 (by decide) rfl ?_
    refine G_istore_n (pc' := 16) C dX10_back_15 [(1, .int (0 : Int32)), (0, .ref o)] (by decide) rfl rfl ?_
    obtain ⟨e2, hle2, h⟩ := ob h
    refine G_sub (lv' := [(0, .ref o), (1, .int (0 : Int32))]) [1, 0] rfl ?_
    refine lpN_ind (body := fun u => fX10_back_L16 u.2 u.1) (P := fun u => GR κ p l e s m ([.ref o] : List Value).toArray below meth c rmX10_back 2 o (some (Value.int q.1)) (RB κ o q.2) u.2 16 [(0, .ref o), (1, .int u.1)] []) (X := fun w => GR κ p l e s m ([.ref o] : List Value).toArray below meth c rmX10_back 2 o (some (Value.int q.1)) (RB κ o q.2) w 37 [(0, .ref o)] []) (fun u y hb kc kx => tX10_back_L16 C hb kc kx) _ _ _ hle2 ?_
    refine G_aload_n (pc' := 38) C dX10_back_37 0 rfl rfl ?_
    obtain ⟨q3, hq3, h⟩ := ob h
    refine G_cV0 (pc' := 41) C dX10_back_38 (tX10_tasks κ l o e2  q3 hq3) (wV tw_ml_X10_253 tw_im_X10_tasks tw_se_X10_X10_tasks tw_in_X10 tw_co_X10_tasks) yd_X10_tasks rfl fi_X10 (RB_rd 0 rfl) rfl rfl (by decide) rfl (Nat.le_of_ble_eq_true rfl) rfl rfl ?_
    obtain rfl := Option.some.inj h
    exact G_iret C dX10_back_41 (fun _ h => h)
  · replace h := z_ip hc h
    refine G_aload_n (pc' := 8) C dX10_back_7 0 rfl rfl ?_
    refine G_bipush (pc' := 10) (v := (-10 : Int32)) C dX10_back_8 (by decide) rfl ?_
    obtain ⟨q4, hq4, h⟩ := ob h
    refine G_cV0 (pc' := 13) C dX10_back_10 (tX10_meet κ l o r (-10 : Int32) q4 hq4) (wV tw_ml_X10_136 tw_im_X10_meet tw_se_X10_X10_meet tw_in_X10 tw_co_X10_meet) yd_X10_meet rfl fi_X10 (RB_rd 0 rfl) rfl rfl (by decide) rfl (Nat.le_of_ble_eq_true rfl) rfl rfl ?_
    obtain rfl := Option.some.inj h
    exact G_iret C dX10_back_13 (fun _ h => h)
theorem dX10_count_0 : decode cX10_count 0 = .ok (.iload_n 1, 1) := by decide +kernel
theorem dX10_count_1 : decode cX10_count 1 = .ok (.ifCond .ne 10, 3) := by decide +kernel
theorem dX10_count_4 : decode cX10_count 4 = .ok (.aload_n 0, 1) := by decide +kernel
theorem dX10_count_5 : decode cX10_count 5 = .ok (.invokevirtual 253, 3) := by decide +kernel
theorem dX10_count_8 : decode cX10_count 8 = .ok (.goto 53, 3) := by decide +kernel
theorem dX10_count_11 : decode cX10_count 11 = .ok (.iload_n 1, 1) := by decide +kernel
theorem dX10_count_12 : decode cX10_count 12 = .ok (.iconst 1, 1) := by decide +kernel
theorem dX10_count_13 : decode cX10_count 13 = .ok (.if_icmp .ne 10, 3) := by decide +kernel
theorem dX10_count_16 : decode cX10_count 16 = .ok (.aload_n 0, 1) := by decide +kernel
theorem dX10_count_17 : decode cX10_count 17 = .ok (.getfield 159, 3) := by decide +kernel
theorem dX10_count_20 : decode cX10_count 20 = .ok (.goto 41, 3) := by decide +kernel
theorem dX10_count_23 : decode cX10_count 23 = .ok (.iload_n 1, 1) := by decide +kernel
theorem dX10_count_24 : decode cX10_count 24 = .ok (.iconst 2, 1) := by decide +kernel
theorem dX10_count_25 : decode cX10_count 25 = .ok (.if_icmp .ne 10, 3) := by decide +kernel
theorem dX10_count_28 : decode cX10_count 28 = .ok (.aload_n 0, 1) := by decide +kernel
theorem dX10_count_29 : decode cX10_count 29 = .ok (.getfield 193, 3) := by decide +kernel
theorem dX10_count_32 : decode cX10_count 32 = .ok (.goto 29, 3) := by decide +kernel
theorem dX10_count_35 : decode cX10_count 35 = .ok (.iload_n 1, 1) := by decide +kernel
theorem dX10_count_36 : decode cX10_count 36 = .ok (.iconst 3, 1) := by decide +kernel
theorem dX10_count_37 : decode cX10_count 37 = .ok (.if_icmp .ne 10, 3) := by decide +kernel
theorem dX10_count_40 : decode cX10_count 40 = .ok (.aload_n 0, 1) := by decide +kernel
theorem dX10_count_41 : decode cX10_count 41 = .ok (.getfield 237, 3) := by decide +kernel
theorem dX10_count_44 : decode cX10_count 44 = .ok (.goto 17, 3) := by decide +kernel
theorem dX10_count_47 : decode cX10_count 47 = .ok (.iload_n 1, 1) := by decide +kernel
theorem dX10_count_48 : decode cX10_count 48 = .ok (.iconst 4, 1) := by decide +kernel
theorem dX10_count_49 : decode cX10_count 49 = .ok (.if_icmp .ne 10, 3) := by decide +kernel
theorem dX10_count_52 : decode cX10_count 52 = .ok (.aload_n 0, 1) := by decide +kernel
theorem dX10_count_53 : decode cX10_count 53 = .ok (.getfield 112, 3) := by decide +kernel
theorem dX10_count_56 : decode cX10_count 56 = .ok (.goto 5, 3) := by decide +kernel
theorem dX10_count_59 : decode cX10_count 59 = .ok (.bipush (-2), 2) := by decide +kernel
theorem dX10_count_61 : decode cX10_count 61 = .ok (.ireturn, 1) := by decide +kernel
abbrev rmX10_count : Room := { frames := 1, cells := 0, slots := 0, locals := 22 }
theorem yd_X10_count : yX10_count.cls = RX10 ∧ yX10_count.cls ≠ "java/lang/invoke/MethodHandle" ∧ yX10_count.cls ≠ "java/lang/invoke/VarHandle" ∧ (parseMethodDescriptor yX10_count.desc).map (fun d => d.parameters.length) = some 1 := by decide +kernel
def fX10_count (r : RS) (a1 : Int32) : Option (Int32) :=
  if a1 = 0 then
    (fX10_tasks r ).bind fun q1 =>
    some q1
  else
    if a1 = (1 : Int32) then
      some (r.1 1)
    else
      if a1 = (2 : Int32) then
        some (r.1 5)
      else
        if a1 = (3 : Int32) then
          some (r.1 7)
        else
          if a1 = (4 : Int32) then
            some (r.1 2)
          else
            some (-2 : Int32)
set_option maxHeartbeats 4000000 in
set_option maxRecDepth 100000 in
theorem tX10_count (κ : KK) (l : Launch) (o : Nat) (r : RS) (a1 : Int32) (q : Int32) (h : fX10_count r a1 = some q) : MM κ l yX10_count cX10_count 2 (some .int) rmX10_count (RA o) [.ref o, .int a1] (RB κ o r) (some (Value.int q)) (RB κ o r) := by
  refine MM.of (by decide +kernel) (Nat.le_of_ble_eq_true rfl) ?_
  intro p e s m below meth c C hnm
  unfold fX10_count at h
  refine G_sub (lv' := [(0, .ref o), (1, .int a1)]) [0, 1] rfl ?_
  refine G_iload_n (pc' := 1) C dX10_count_0 1 rfl rfl ?_
  refine G_if_ne (tgt := 11) (pc' := 4) C dX10_count_1 (by decide) rfl (fun hc => ?_) (fun hc => ?_)
  · replace h := z_in hc h
    refine G_iload_n (pc' := 12) C dX10_count_11 1 rfl rfl ?_
    refine G_iconst (pc' := 13) (v := (1 : Int32)) C dX10_count_12 (by decide) rfl ?_
    refine G_icmp_ne (tgt := 23) (pc' := 16) C dX10_count_13 (by decide) rfl (fun hc => ?_) (fun hc => ?_)
    · replace h := z_in hc h
      refine G_iload_n (pc' := 24) C dX10_count_23 1 rfl rfl ?_
      refine G_iconst (pc' := 25) (v := (2 : Int32)) C dX10_count_24 (by decide) rfl ?_
      refine G_icmp_ne (tgt := 35) (pc' := 28) C dX10_count_25 (by decide) rfl (fun hc => ?_) (fun hc => ?_)
      · replace h := z_in hc h
        refine G_iload_n (pc' := 36) C dX10_count_35 1 rfl rfl ?_
        refine G_iconst (pc' := 37) (v := (3 : Int32)) C dX10_count_36 (by decide) rfl ?_
        refine G_icmp_ne (tgt := 47) (pc' := 40) C dX10_count_37 (by decide) rfl (fun hc => ?_) (fun hc => ?_)
        · replace h := z_in hc h
          refine G_iload_n (pc' := 48) C dX10_count_47 1 rfl rfl ?_
          refine G_iconst (pc' := 49) (v := (4 : Int32)) C dX10_count_48 (by decide) rfl ?_
          refine G_icmp_ne (tgt := 59) (pc' := 52) C dX10_count_49 (by decide) rfl (fun hc => ?_) (fun hc => ?_)
          · replace h := z_in hc h
            refine G_bipush (pc' := 61) (v := (-2 : Int32)) C dX10_count_59 (by decide) rfl ?_
            obtain rfl := Option.some.inj h
            exact G_iret C dX10_count_61 (fun _ h => h)
          · replace h := z_ip hc h
            refine G_aload_n (pc' := 53) C dX10_count_52 0 rfl rfl ?_
            refine R_g_met (pc' := 56) C dX10_count_53 rfl ?_
            refine G_goto (tgt := 61) C dX10_count_56 (by decide) ?_
            obtain rfl := Option.some.inj h
            exact G_iret C dX10_count_61 (fun _ h => h)
        · replace h := z_ip hc h
          refine G_aload_n (pc' := 41) C dX10_count_40 0 rfl rfl ?_
          refine R_g_forms (pc' := 44) C dX10_count_41 rfl ?_
          refine G_goto (tgt := 61) C dX10_count_44 (by decide) ?_
          obtain rfl := Option.some.inj h
          exact G_iret C dX10_count_61 (fun _ h => h)
      · replace h := z_ip hc h
        refine G_aload_n (pc' := 29) C dX10_count_28 0 rfl rfl ?_
        refine R_g_nodes (pc' := 32) C dX10_count_29 rfl ?_
        refine G_goto (tgt := 61) C dX10_count_32 (by decide) ?_
        obtain rfl := Option.some.inj h
        exact G_iret C dX10_count_61 (fun _ h => h)
    · replace h := z_ip hc h
      refine G_aload_n (pc' := 17) C dX10_count_16 0 rfl rfl ?_
      refine R_g_waits (pc' := 20) C dX10_count_17 rfl ?_
      refine G_goto (tgt := 61) C dX10_count_20 (by decide) ?_
      obtain rfl := Option.some.inj h
      exact G_iret C dX10_count_61 (fun _ h => h)
  · replace h := z_ip hc h
    refine G_aload_n (pc' := 5) C dX10_count_4 0 rfl rfl ?_
    obtain ⟨q1, hq1, h⟩ := ob h
    refine G_cV0 (pc' := 8) C dX10_count_5 (tX10_tasks κ l o r  q1 hq1) (wV tw_ml_X10_253 tw_im_X10_tasks tw_se_X10_X10_tasks tw_in_X10 tw_co_X10_tasks) yd_X10_tasks rfl fi_X10 (RB_rd 0 rfl) rfl rfl (by decide) rfl (Nat.le_of_ble_eq_true rfl) rfl rfl ?_
    refine G_goto (tgt := 61) C dX10_count_8 (by decide) ?_
    obtain rfl := Option.some.inj h
    exact G_iret C dX10_count_61 (fun _ h => h)
