/-! ===== form: the reference ===== -/
def RM (r r' : RS) : Prop := (∀ k, k ≠ 7 → r'.1 k = r.1 k) ∧ (∀ k, k ≠ 25 → k ≠ 26 → k ≠ 27 → r'.2.1 k = r.2.1 k) ∧ r'.2.2 = r.2.2
theorem RM.rf {r : RS} : RM r r := ⟨fun _ _ => rfl, fun _ _ _ _ => rfl, rfl⟩
theorem RM.up {r r' : RS} {k i : Nat} {x : Int32} (h : RM r r') (hk : k = 25 ∨ k = 26 ∨ k = 27) : RM r (rA r' k i x) := ⟨h.1, fun j a b c => by rw [rA_n (by omega)]; exact h.2.1 j a b c, h.2.2⟩
theorem RM.i7 {r r' : RS} {x : Int32} (h : RM r r') : RM r (rI r' 7 x) := ⟨fun k hk => by rw [rI_n hk]; exact h.1 k hk, h.2.1, h.2.2⟩
theorem RM.pw {r r' : RS} (h : RM r r') (hp : PwR r) : PwR r' := fun k hk => by rw [h.2.1 11 (by omega) (by omega) (by omega)]; exact hp k hk
theorem inputs10_n {r : RS} {n c : Nat} (hp : PwR r) (hn : n ≤ 4) (hc : c < 3 ^ n) : fX10_inputsOf r (nI c) (nI n) = some (nI (IMc n c)) := by
  have p := p16 hn
  have p8 := p81 hn
  have in19 : ∀ x l3, x < 2 ^ n → lpN (fun u => fX10_inputsOf_L19 r (nI c) (nI n) l3 (nI x) u.1 u.2) bigN (nI 1, nI 0) = some (nI (inB c x n)) := by
    intro x l3 hx
    refine lp_det (body := fun u => fX10_inputsOf_L19 r (nI c) (nI n) l3 (nI x) u.1 u.2) (fun i => (nI (inB c x i), nI i)) n (bigN_gt (by omega)) (fun i hi => ?_) ?_
    · have il := inB_le c x i
      have hdl := dg_lt c i
      have bl := bt_lt x i
      have a1 : inB c x i &&& 1 = inB c x i := by rcases (show inB c x i = 0 ∨ inB c x i = 1 by omega) with q | q <;> rw [q] <;> rfl
      have dn := digit_n hp (show c < 6561 by omega) (show i ≤ 8 by omega)
      unfold fX10_inputsOf_L19 fX10_inputsOf_L19_J55 fX10_inputsOf_L19_J60
      by_cases d2 : dg c i = 2
      · rw [show inB c x (i + 1) = inB c x i from if_pos (Or.inl d2)]
        rw [d2] at dn
        simp (disch := omega) only [dn, nI_and, a1, Option.bind_some, aI_n, aL_n, aQ_n, sA_n, sL_n, csA_n, i_0, i_1, i_2, i_3, i_4, i_5, i_6, i_7, i_8, i_9, i_10, i_11, i_12, i_13, i_16, i_20, i_21, i_22, i_31, i_99, i_100, i_256, i_1000, nI_eq, nI_leI, nI_ltI, nI_add, pk_mul, ↓reduceIte, nt_le, nf_le, nt_lt, nf_lt, nt_eq, nf_eq, meet_N', meet_P', meet_S', meet_Z', meet_B', meet_O', n_1, n_2, n_3, n_4, n_5, n_10, n_11]
      · by_cases db : dg c i = bt x i
        · rw [show inB c x (i + 1) = inB c x i from if_pos (Or.inr db)]
          simp (disch := omega) only [dn, bitB (show x < 2 ^ 31 by omega) (show i < 32 by omega), nI_and (inB c x i) 1, a1, Option.bind_some, aI_n, aL_n, aQ_n, sA_n, sL_n, csA_n, i_0, i_1, i_2, i_3, i_4, i_5, i_6, i_7, i_8, i_9, i_10, i_11, i_12, i_13, i_16, i_20, i_21, i_22, i_31, i_99, i_100, i_256, i_1000, nI_eq, nI_leI, nI_ltI, nI_add, pk_mul, ↓reduceIte, nt_le, nf_le, nt_lt, nf_lt, nt_eq, nf_eq, meet_N', meet_P', meet_S', meet_Z', meet_B', meet_O', n_1, n_2, n_3, n_4, n_5, n_10, n_11]
        · rw [show inB c x (i + 1) = 0 from if_neg (fun w => w.elim d2 db)]
          simp (disch := omega) only [dn, bitB (show x < 2 ^ 31 by omega) (show i < 32 by omega), nI_and (inB c x i) 0, Nat.and_zero, Option.bind_some, aI_n, aL_n, aQ_n, sA_n, sL_n, csA_n, i_0, i_1, i_2, i_3, i_4, i_5, i_6, i_7, i_8, i_9, i_10, i_11, i_12, i_13, i_16, i_20, i_21, i_22, i_31, i_99, i_100, i_256, i_1000, nI_eq, nI_leI, nI_ltI, nI_add, pk_mul, ↓reduceIte, nt_le, nf_le, nt_lt, nf_lt, nt_eq, nf_eq, meet_N', meet_P', meet_S', meet_Z', meet_B', meet_O', n_1, n_2, n_3, n_4, n_5, n_10, n_11]
    · unfold fX10_inputsOf_L19
      simp (disch := omega) only [Option.bind_some, aI_n, aL_n, aQ_n, sA_n, sL_n, csA_n, i_0, i_1, i_2, i_3, i_4, i_5, i_6, i_7, i_8, i_9, i_10, i_11, i_12, i_13, i_16, i_20, i_21, i_22, i_31, i_99, i_100, i_256, i_1000, nI_eq, nI_leI, nI_ltI, nI_add, pk_mul, ↓reduceIte, nt_le, nf_le, nt_lt, nf_lt, nt_eq, nf_eq, meet_N', meet_P', meet_S', meet_Z', meet_B', meet_O', n_1, n_2, n_3, n_4, n_5, n_10, n_11]
  have key : lpN (fun u => fX10_inputsOf_L5 r (nI c) (nI n) u.1 u.2) bigN (nI 0, nI 0) = some (nI (IMc n c)) := by
    refine lp_det (body := fun u => fX10_inputsOf_L5 r (nI c) (nI n) u.1 u.2) (fun x => (nI (nmF (fun x => inB c x n) x), nI x)) (2 ^ n) (bigN_gt (by omega)) (fun x hx => ?_) ?_
    · have a : nmF (fun x => inB c x n) x < 2 ^ x := nmF_lt (fun y _ => inB_le c y n)
      have il := inB_le c x n
      have es : nmF (fun x => inB c x n) (x + 1) = nmF (fun x => inB c x n) x + inB c x n * 2 ^ x := rfl
      have i19 := in19 x (nI (nmF (fun x => inB c x n) x)) hx
      unfold fX10_inputsOf_L5 fX10_inputsOf_L5_J83
      rw [es]
      by_cases e : inB c x n = 0
      · rw [e, Nat.zero_mul, Nat.add_zero]
        rw [e] at i19
        simp (disch := omega) only [shl1' n (by omega), i19, nI_or, Nat.or_zero, Option.bind_some, aI_n, aL_n, aQ_n, sA_n, sL_n, csA_n, i_0, i_1, i_2, i_3, i_4, i_5, i_6, i_7, i_8, i_9, i_10, i_11, i_12, i_13, i_16, i_20, i_21, i_22, i_31, i_99, i_100, i_256, i_1000, nI_eq, nI_leI, nI_ltI, nI_add, pk_mul, ↓reduceIte, nt_le, nf_le, nt_lt, nf_lt, nt_eq, nf_eq, meet_N', meet_P', meet_S', meet_Z', meet_B', meet_O', n_1, n_2, n_3, n_4, n_5, n_10, n_11]
      · have e1 : inB c x n = 1 := by omega
        rw [e1, Nat.one_mul]
        rw [e1] at i19
        simp (disch := omega) only [shl1' n (by omega), i19, shl16 x (by omega), or_16 a (show x < 17 by omega), Option.bind_some, aI_n, aL_n, aQ_n, sA_n, sL_n, csA_n, i_0, i_1, i_2, i_3, i_4, i_5, i_6, i_7, i_8, i_9, i_10, i_11, i_12, i_13, i_16, i_20, i_21, i_22, i_31, i_99, i_100, i_256, i_1000, nI_eq, nI_leI, nI_ltI, nI_add, pk_mul, ↓reduceIte, nt_le, nf_le, nt_lt, nf_lt, nt_eq, nf_eq, meet_N', meet_P', meet_S', meet_Z', meet_B', meet_O', n_1, n_2, n_3, n_4, n_5, n_10, n_11]
    · unfold fX10_inputsOf_L5
      simp (disch := omega) only [shl1' n (by omega), Option.bind_some, aI_n, aL_n, aQ_n, sA_n, sL_n, csA_n, i_0, i_1, i_2, i_3, i_4, i_5, i_6, i_7, i_8, i_9, i_10, i_11, i_12, i_13, i_16, i_20, i_21, i_22, i_31, i_99, i_100, i_256, i_1000, nI_eq, nI_leI, nI_ltI, nI_add, pk_mul, ↓reduceIte, nt_le, nf_le, nt_lt, nf_lt, nt_eq, nf_eq, meet_N', meet_P', meet_S', meet_Z', meet_B', meet_O', n_1, n_2, n_3, n_4, n_5, n_10, n_11]
      rfl
  unfold fX10_inputsOf
  exact (congrArg (fun u => u.bind fun e4 => some e4) key).trans rfl
/-- what the reference's form rests on -/
def RBm (n : Nat) (g : Nat → Nat) (r : RS) : Prop := PwR r ∧ (∀ c, c < 3 ^ n → r.2.1 12 c = nI (hasT n g c)) ∧ ∀ c, c < 3 ^ n → r.2.1 27 c = nI (IMc n c)
theorem ok_has {n : Nat} {g : Nat → Nat} (hg : ∀ x, g x ≤ 2) (c : Nat) : okc n g c ↔ hasT n g c % 2 = 0 := by
  have h := hasT_in (n := n) hg (k := 0) (by omega) c
  have e : bt (hasT n g c) 0 = hasT n g c % 2 := by unfold bt; rw [Nat.pow_zero, Nat.div_one]
  rw [e] at h
  unfold okc
  rw [← h]
  omega
theorem isNext_n {r : RS} {n c Y cov : Nat} {g : Nat → Nat} (hn : n ≤ 4) (hg : ∀ x, g x ≤ 2) (hB : RBm n g r) (hc : c < 3 ^ n) (hY : Y < 65536) : ((okc n g c ∧ IMc n c &&& lw (df Y cov) ≠ 0) → fX10_isNext r (nI c) (nI Y) (nI cov) = some (nI 1)) ∧ (¬ (okc n g c ∧ IMc n c &&& lw (df Y cov) ≠ 0) → fX10_isNext r (nI c) (nI Y) (nI cov) = some (nI 0)) := by
  have p8 := p81 hn
  obtain ⟨b1, b2, b3⟩ := hB
  have hl := hasT_le n g c
  have dl := df_le Y cov
  have lwl : lw (df Y cov) ≤ df Y cov := Nat.and_le_left
  have al : IMc n c &&& lw (df Y cov) ≤ lw (df Y cov) := Nat.and_le_right
  have oh := ok_has (n := n) hg c
  have lwn := lw_n (show df Y cov < 65536 by omega)
  unfold fX10_isNext fX10_isNext_J38
  refine ⟨fun ⟨w1, w2⟩ => ?_, fun w => ?_⟩
  · have m0 := oh.mp w1
    simp (disch := omega) only [b2 c hc, and1 (show hasT n g c < 2 ^ 31 by omega), m0, b3 c hc, df_n, lwn, nI_and (IMc n c) (lw (df Y cov)), Option.bind_some, aI_n, aL_n, aQ_n, sA_n, sL_n, csA_n, i_0, i_1, i_2, i_3, i_4, i_5, i_6, i_7, i_8, i_9, i_10, i_11, i_12, i_13, i_16, i_20, i_21, i_22, i_31, i_99, i_100, i_256, i_1000, nI_eq, nI_leI, nI_ltI, nI_add, pk_mul, ↓reduceIte, nt_le, nf_le, nt_lt, nf_lt, nt_eq, nf_eq, meet_N', meet_P', meet_S', meet_Z', meet_B', meet_O', n_1, n_2, n_3, n_4, n_5, n_10, n_11]
  · by_cases ok : okc n g c
    · have m0 := oh.mp ok
      have q : IMc n c &&& lw (df Y cov) = 0 := by
        by_cases q : IMc n c &&& lw (df Y cov) = 0
        · exact q
        · exact absurd ⟨ok, q⟩ w
      simp (disch := omega) only [b2 c hc, and1 (show hasT n g c < 2 ^ 31 by omega), m0, b3 c hc, df_n, lwn, nI_and (IMc n c) (lw (df Y cov)), q, Option.bind_some, aI_n, aL_n, aQ_n, sA_n, sL_n, csA_n, i_0, i_1, i_2, i_3, i_4, i_5, i_6, i_7, i_8, i_9, i_10, i_11, i_12, i_13, i_16, i_20, i_21, i_22, i_31, i_99, i_100, i_256, i_1000, nI_eq, nI_leI, nI_ltI, nI_add, pk_mul, ↓reduceIte, nt_le, nf_le, nt_lt, nf_lt, nt_eq, nf_eq, meet_N', meet_P', meet_S', meet_Z', meet_B', meet_O', n_1, n_2, n_3, n_4, n_5, n_10, n_11]
    · have m1 : ¬ hasT n g c % 2 = 0 := fun q => ok (oh.mpr q)
      simp (disch := omega) only [b2 c hc, and1 (show hasT n g c < 2 ^ 31 by omega), Option.bind_some, aI_n, aL_n, aQ_n, sA_n, sL_n, csA_n, i_0, i_1, i_2, i_3, i_4, i_5, i_6, i_7, i_8, i_9, i_10, i_11, i_12, i_13, i_16, i_20, i_21, i_22, i_31, i_99, i_100, i_256, i_1000, nI_eq, nI_leI, nI_ltI, nI_add, pk_mul, ↓reduceIte, nt_le, nf_le, nt_lt, nf_lt, nt_eq, nf_eq, meet_N', meet_P', meet_S', meet_Z', meet_B', meet_O', n_1, n_2, n_3, n_4, n_5, n_10, n_11]
/-! what is covered, one step on -/
theorem bt01 (x j : Nat) : bt x j = 0 ∨ bt x j = 1 := by
  have := bt_lt x j
  omega
theorem cov_df {Y cov m : Nat} (hY : Y < 65536) : df Y (cov ||| (m &&& Y)) = df (df Y cov) m := by
  have a := df_le Y (cov ||| (m &&& Y))
  have b := df_le Y cov
  have c := df_le (df Y cov) m
  refine bt_ext (n := 16) (by omega) (by omega) (fun j hj => ?_)
  rw [bt_df (by omega), bt_df (by omega), bt_df (by omega)]
  have h1 := bt_or cov (m &&& Y) j
  rw [bt_and] at h1
  have l := bt_lt (cov ||| (m &&& Y)) j
  rcases bt01 Y j with y | y <;> rcases bt01 cov j with v | v <;> rcases bt01 m j with w | w <;> rw [y, v, w] at h1 <;> rw [y, v, w] <;> simp at h1 ⊢ <;> omega
theorem cov_sub {Y cov m : Nat} (hY : Y < 65536) (hc : cov &&& Y = cov) : (cov ||| (m &&& Y)) &&& Y = cov ||| (m &&& Y) := by
  have c1 : cov ≤ Y := by rw [← hc]; exact Nat.and_le_right
  have c2 : m &&& Y ≤ Y := Nat.and_le_right
  have c3 : cov ||| (m &&& Y) < 2 ^ 16 := Nat.or_lt_two_pow (by omega) (by omega)
  rw [sub_bt (n := 16) c3]
  intro j hj hb
  rcases (bt_or cov (m &&& Y) j).mp hb with q | q
  · exact (sub_bt (n := 16) (show cov < 2 ^ 16 by omega)).mp hc j hj q
  · rw [bt_and] at q
    by_cases w : bt m j = 1 ∧ bt Y j = 1
    · exact w.2
    · rw [if_neg w] at q; omega
theorem cov_gt {Y cov m : Nat} (hY : Y < 65536) (hc : cov &&& Y = cov) (h : m &&& lw (df Y cov) ≠ 0) : cov < cov ||| (m &&& Y) := by
  have dl := df_le Y cov
  have l0 : df Y cov ≠ 0 := fun q => h (by rw [q]; show m &&& (0 &&& _) = 0; rw [Nat.zero_and, Nat.and_zero])
  obtain ⟨i, i1, i2, i3⟩ := lw_ok (show df Y cov < 65536 by omega) l0
  rw [i2] at h
  have mi := and_pow.mp h
  rw [bt_df (by omega)] at i3
  have yi : bt Y i = 1 ∧ bt cov i = 0 := by
    by_cases q : bt Y i = 1 ∧ bt cov i = 0
    · exact q
    · rw [if_neg q] at i3; omega
  have ge : cov ≤ cov ||| (m &&& Y) := Nat.left_le_or
  have ne : cov ≠ cov ||| (m &&& Y) := fun q => by
    have b : bt (cov ||| (m &&& Y)) i = 1 := (bt_or _ _ i).mpr (Or.inr (by rw [bt_and, if_pos ⟨mi, yi.1⟩]))
    rw [← q] at b
    omega
  omega
theorem df_self (Y : Nat) (hY : Y < 65536) : df Y Y = 0 := by
  have a := df_le Y Y
  refine zero_bt (by omega) (fun x hx => ?_)
  rw [bt_df (by omega)]
  rcases bt01 Y x with y | y <;> rw [y] <;> simp
theorem df_0 {Y cov : Nat} (hY : Y < 65536) (hc : cov &&& Y = cov) (h : df Y cov = 0) : cov = Y := by
  have c1 : cov ≤ Y := by rw [← hc]; exact Nat.and_le_right
  refine bt_ext (n := 16) (by omega) (by omega) (fun j hj => ?_)
  have a := (sub_bt (n := 16) (show cov < 2 ^ 16 by omega)).mp hc j hj
  have b := bt_df (l := Y) (s := cov) (j := j) (by omega)
  rw [h, bt_z] at b
  rcases bt01 Y j with y | y <;> rcases bt01 cov j with v | v <;> rw [y, v] at b ⊢
  · rw [v, y] at a; omega
  · simp at b
/-- the table of needs, for what is covered from m on -/
def Nd25 (n : Nat) (g : Nat → Nat) (f : Nat → Int32) (m : Nat) : Prop := ∀ cov, m ≤ cov → cov &&& Ym n g = cov → ∃ k, k ≤ 16 ∧ IsMin (okc n g) (IMc n) (3 ^ n) (df (Ym n g) cov) k ∧ f cov = nI k
theorem Y_ok {n : Nat} {g : Nat → Nat} {cov x : Nat} (hx : x < 16) (h : bt (df (Ym n g) cov) x = 1) : x < 2 ^ n ∧ g x = 1 := by
  rw [bt_df (by omega)] at h
  by_cases q : bt (Ym n g) x = 1 ∧ bt cov x = 0
  · exact (Ym_x g).mp q.1
  · rw [if_neg q] at h; omega
