/-! ===== degree, energy, pull ===== -/
/-- the most ones of an input below k at which v isn't 0 -/
def mxo (v : Nat → Int32) : Nat → Nat
  | 0 => 0
  | k + 1 => if v k = nI 0 then mxo v k else max (mxo v k) (pop k)
theorem mxo_le (v : Nat → Int32) (k : Nat) : mxo v k ≤ 8 := by
  induction k with
  | zero => exact Nat.zero_le _
  | succ k ih =>
    have := pop_le k
    unfold mxo
    split
    · exact ih
    · omega
theorem St_degree_ok : St_degree Sim := by
  intro o z r a1 h
  obtain ⟨h1, h2, h3, -⟩ := id h
  unfold fX9_degree fX10_degree
  rcases plc h3 a1 with hx | ⟨k, hk, rfl, e, e'⟩ | ⟨k, q, n, kd, wt, g, b, hk, rfl, e, t1, t2, n1, n8, hg, d1, d2, d3, p2, p1⟩
  · refine ⟨(-2, z), (-2, r), ?_, ?_, rfl, h⟩
    · simp (disch := omega) only [told9_out hx, Option.bind_some, aI_n, aL_n, aQ_n, sA_n, sL_n, csA_n, i_0, i_1, i_2, i_3, i_4, i_5, i_6, i_7, i_8, i_9, i_10, i_11, i_12, i_13, i_16, i_20, i_21, i_22, i_31, i_99, i_100, i_256, i_1000, nI_eq, nI_leI, nI_ltI, nI_add, pk_mul, ↓reduceIte, nt_le, nf_le, nt_lt, nf_lt, nt_eq, nf_eq, meet_N', meet_P', meet_S', meet_Z', meet_B', meet_O', n_1, n_2, n_3, n_4, n_5, n_10, n_11]
    · simp (disch := omega) only [askT_out hx, Option.bind_some, aI_n, aL_n, aQ_n, sA_n, sL_n, csA_n, i_0, i_1, i_2, i_3, i_4, i_5, i_6, i_7, i_8, i_9, i_10, i_11, i_12, i_13, i_16, i_20, i_21, i_22, i_31, i_99, i_100, i_256, i_1000, nI_eq, nI_leI, nI_ltI, nI_add, pk_mul, ↓reduceIte, nt_le, nf_le, nt_lt, nf_lt, nt_eq, nf_eq, meet_N', meet_P', meet_S', meet_Z', meet_B', meet_O', n_1, n_2, n_3, n_4, n_5, n_10, n_11]
  · refine ⟨(-10, _), (-10, _), ?_, ?_, rfl, Sim_met h⟩
    · simp (disch := omega) only [told9_no hk e, Option.bind_some, aI_n, aL_n, aQ_n, sA_n, sL_n, csA_n, i_0, i_1, i_2, i_3, i_4, i_5, i_6, i_7, i_8, i_9, i_10, i_11, i_12, i_13, i_16, i_20, i_21, i_22, i_31, i_99, i_100, i_256, i_1000, nI_eq, nI_leI, nI_ltI, nI_add, pk_mul, ↓reduceIte, nt_le, nf_le, nt_lt, nf_lt, nt_eq, nf_eq, meet_N', meet_P', meet_S', meet_Z', meet_B', meet_O', n_1, n_2, n_3, n_4, n_5, n_10, n_11] <;> rfl
    · simp (disch := omega) only [askT_no hk e', Option.bind_some, aI_n, aL_n, aQ_n, sA_n, sL_n, csA_n, i_0, i_1, i_2, i_3, i_4, i_5, i_6, i_7, i_8, i_9, i_10, i_11, i_12, i_13, i_16, i_20, i_21, i_22, i_31, i_99, i_100, i_256, i_1000, nI_eq, nI_leI, nI_ltI, nI_add, pk_mul, ↓reduceIte, nt_le, nf_le, nt_lt, nf_lt, nt_eq, nf_eq, meet_N', meet_P', meet_S', meet_Z', meet_B', meet_O', n_1, n_2, n_3, n_4, n_5, n_10, n_11] <;> rfl
  · have hk16 : k < 16 := by omega
    have f1 := told9_yes (o := o) hk e t1
    have f2 := askT_yes hk t2 n1 n8 hg
    by_cases ht : cnt g 2 (2 ^ n) = 0
    · rw [if_pos ht] at f1 f2
      obtain ⟨f, u2, u3⟩ := TkB t1 d1
      obtain ⟨z', w1, w2, w3⟩ := loadP_n (o := o) n8 d1 u2 u3
      have y1 := ZR_T w2 d1
      obtain ⟨y2, y3⟩ := rd_f (ZR_B w2 u2) u3 n8
      generalize hV : AA Kp (fun x => nI (g x)) n = V at *
      have k1 : lpN (fun u => fX9_degree_L33 o z' q u.1 u.2) bigN (nI 0, nI 0) = some (nI (mxo V (2 ^ n))) := by
        refine lp_det (body := fun u => fX9_degree_L33 o z' q u.1 u.2) (fun i => (nI (mxo V i), nI i)) (2 ^ n) (bigN_gt (by omega)) (fun i hi => ?_) ?_
        · have l1 := mxo_le V i
          have l2 := pop_le i
          unfold fX9_degree_L33 fX9_degree_L33_J68
          by_cases c : V i = nI 0
          · rw [show mxo V (i + 1) = mxo V i from if_pos c]
            simp (disch := omega) only [y1, y2, w3 i hi, c, Option.bind_some, aI_n, aL_n, aQ_n, sA_n, sL_n, csA_n, i_0, i_1, i_2, i_3, i_4, i_5, i_6, i_7, i_8, i_9, i_10, i_11, i_12, i_13, i_16, i_20, i_21, i_22, i_31, i_99, i_100, i_256, i_1000, nI_eq, nI_leI, nI_ltI, nI_add, pk_mul, ↓reduceIte, nt_le, nf_le, nt_lt, nf_lt, nt_eq, nf_eq, meet_N', meet_P', meet_S', meet_Z', meet_B', meet_O', n_1, n_2, n_3, n_4, n_5, n_10, n_11]
          · rw [show mxo V (i + 1) = max (mxo V i) (pop i) from if_neg c]
            by_cases c2 : mxo V i < pop i
            · rw [Nat.max_eq_right (by omega)]
              simp (disch := omega) only [y1, y2, w3 i hi, c, bitC i (by omega), Option.bind_some, aI_n, aL_n, aQ_n, sA_n, sL_n, csA_n, i_0, i_1, i_2, i_3, i_4, i_5, i_6, i_7, i_8, i_9, i_10, i_11, i_12, i_13, i_16, i_20, i_21, i_22, i_31, i_99, i_100, i_256, i_1000, nI_eq, nI_leI, nI_ltI, nI_add, pk_mul, ↓reduceIte, nt_le, nf_le, nt_lt, nf_lt, nt_eq, nf_eq, meet_N', meet_P', meet_S', meet_Z', meet_B', meet_O', n_1, n_2, n_3, n_4, n_5, n_10, n_11]
            · rw [Nat.max_eq_left (by omega)]
              simp (disch := omega) only [y1, y2, w3 i hi, c, bitC i (by omega), Option.bind_some, aI_n, aL_n, aQ_n, sA_n, sL_n, csA_n, i_0, i_1, i_2, i_3, i_4, i_5, i_6, i_7, i_8, i_9, i_10, i_11, i_12, i_13, i_16, i_20, i_21, i_22, i_31, i_99, i_100, i_256, i_1000, nI_eq, nI_leI, nI_ltI, nI_add, pk_mul, ↓reduceIte, nt_le, nf_le, nt_lt, nf_lt, nt_eq, nf_eq, meet_N', meet_P', meet_S', meet_Z', meet_B', meet_O', n_1, n_2, n_3, n_4, n_5, n_10, n_11]
        · unfold fX9_degree_L33
          simp (disch := omega) only [y1, y2, Option.bind_some, aI_n, aL_n, aQ_n, sA_n, sL_n, csA_n, i_0, i_1, i_2, i_3, i_4, i_5, i_6, i_7, i_8, i_9, i_10, i_11, i_12, i_13, i_16, i_20, i_21, i_22, i_31, i_99, i_100, i_256, i_1000, nI_eq, nI_leI, nI_ltI, nI_add, pk_mul, ↓reduceIte, nt_le, nf_le, nt_lt, nf_lt, nt_eq, nf_eq, meet_N', meet_P', meet_S', meet_Z', meet_B', meet_O', n_1, n_2, n_3, n_4, n_5, n_10, n_11]
      have k2 : lpN (fun u => fX10_degree_L21 r (nI k) u.1 u.2) bigN (nI 0, nI 0) = some (nI (mxo V (2 ^ n))) := by
        refine lp_det (body := fun u => fX10_degree_L21 r (nI k) u.1 u.2) (fun i => (nI (mxo V i), nI i)) (2 ^ n) (bigN_gt (by omega)) (fun i hi => ?_) ?_
        · have l1 := mxo_le V i
          have l2 := pop_le i
          have po := polyOf_n hk16 t2 n8 hi
          rw [hV] at po
          unfold fX10_degree_L21 fX10_degree_L21_J58 fX10_degree_L21_J59
          by_cases c : V i = nI 0
          · rw [show mxo V (i + 1) = mxo V i from if_pos c]
            simp (disch := omega) only [inputs_n hk16 t2.1 n8, po, c, Option.bind_some, aI_n, aL_n, aQ_n, sA_n, sL_n, csA_n, i_0, i_1, i_2, i_3, i_4, i_5, i_6, i_7, i_8, i_9, i_10, i_11, i_12, i_13, i_16, i_20, i_21, i_22, i_31, i_99, i_100, i_256, i_1000, nI_eq, nI_leI, nI_ltI, nI_add, pk_mul, ↓reduceIte, nt_le, nf_le, nt_lt, nf_lt, nt_eq, nf_eq, meet_N', meet_P', meet_S', meet_Z', meet_B', meet_O', n_1, n_2, n_3, n_4, n_5, n_10, n_11]
          · rw [show mxo V (i + 1) = max (mxo V i) (pop i) from if_neg c]
            by_cases c2 : pop i ≤ mxo V i
            · rw [Nat.max_eq_left (by omega)]
              simp (disch := omega) only [inputs_n hk16 t2.1 n8, po, c, ones_n (show i < 256 by omega), Option.bind_some, aI_n, aL_n, aQ_n, sA_n, sL_n, csA_n, i_0, i_1, i_2, i_3, i_4, i_5, i_6, i_7, i_8, i_9, i_10, i_11, i_12, i_13, i_16, i_20, i_21, i_22, i_31, i_99, i_100, i_256, i_1000, nI_eq, nI_leI, nI_ltI, nI_add, pk_mul, ↓reduceIte, nt_le, nf_le, nt_lt, nf_lt, nt_eq, nf_eq, meet_N', meet_P', meet_S', meet_Z', meet_B', meet_O', n_1, n_2, n_3, n_4, n_5, n_10, n_11]
            · rw [Nat.max_eq_right (by omega)]
              simp (disch := omega) only [inputs_n hk16 t2.1 n8, po, c, ones_n (show i < 256 by omega), Option.bind_some, aI_n, aL_n, aQ_n, sA_n, sL_n, csA_n, i_0, i_1, i_2, i_3, i_4, i_5, i_6, i_7, i_8, i_9, i_10, i_11, i_12, i_13, i_16, i_20, i_21, i_22, i_31, i_99, i_100, i_256, i_1000, nI_eq, nI_leI, nI_ltI, nI_add, pk_mul, ↓reduceIte, nt_le, nf_le, nt_lt, nf_lt, nt_eq, nf_eq, meet_N', meet_P', meet_S', meet_Z', meet_B', meet_O', n_1, n_2, n_3, n_4, n_5, n_10, n_11]
        · unfold fX10_degree_L21
          simp (disch := omega) only [inputs_n hk16 t2.1 n8, Option.bind_some, aI_n, aL_n, aQ_n, sA_n, sL_n, csA_n, i_0, i_1, i_2, i_3, i_4, i_5, i_6, i_7, i_8, i_9, i_10, i_11, i_12, i_13, i_16, i_20, i_21, i_22, i_31, i_99, i_100, i_256, i_1000, nI_eq, nI_leI, nI_ltI, nI_add, pk_mul, ↓reduceIte, nt_le, nf_le, nt_lt, nf_lt, nt_eq, nf_eq, meet_N', meet_P', meet_S', meet_Z', meet_B', meet_O', n_1, n_2, n_3, n_4, n_5, n_10, n_11]
      refine ⟨(nI (mxo V (2 ^ n)), z'), (nI (mxo V (2 ^ n)), r), ?_, ?_, rfl, Sim_zr h w2⟩
      · simp (disch := omega) only [f1, e, w1, k1, Option.bind_some, aI_n, aL_n, aQ_n, sA_n, sL_n, csA_n, i_0, i_1, i_2, i_3, i_4, i_5, i_6, i_7, i_8, i_9, i_10, i_11, i_12, i_13, i_16, i_20, i_21, i_22, i_31, i_99, i_100, i_256, i_1000, nI_eq, nI_leI, nI_ltI, nI_add, pk_mul, ↓reduceIte, nt_le, nf_le, nt_lt, nf_lt, nt_eq, nf_eq, meet_N', meet_P', meet_S', meet_Z', meet_B', meet_O', n_1, n_2, n_3, n_4, n_5, n_10, n_11]
      · simp (disch := omega) only [f2, k2, Option.bind_some, aI_n, aL_n, aQ_n, sA_n, sL_n, csA_n, i_0, i_1, i_2, i_3, i_4, i_5, i_6, i_7, i_8, i_9, i_10, i_11, i_12, i_13, i_16, i_20, i_21, i_22, i_31, i_99, i_100, i_256, i_1000, nI_eq, nI_leI, nI_ltI, nI_add, pk_mul, ↓reduceIte, nt_le, nf_le, nt_lt, nf_lt, nt_eq, nf_eq, meet_N', meet_P', meet_S', meet_Z', meet_B', meet_O', n_1, n_2, n_3, n_4, n_5, n_10, n_11]
    · rw [if_neg ht] at f1 f2
      refine ⟨(-4, z), (-4, r), ?_, ?_, rfl, h⟩
      · simp (disch := omega) only [f1, Option.bind_some, aI_n, aL_n, aQ_n, sA_n, sL_n, csA_n, i_0, i_1, i_2, i_3, i_4, i_5, i_6, i_7, i_8, i_9, i_10, i_11, i_12, i_13, i_16, i_20, i_21, i_22, i_31, i_99, i_100, i_256, i_1000, nI_eq, nI_leI, nI_ltI, nI_add, pk_mul, ↓reduceIte, nt_le, nf_le, nt_lt, nf_lt, nt_eq, nf_eq, meet_N', meet_P', meet_S', meet_Z', meet_B', meet_O', n_1, n_2, n_3, n_4, n_5, n_10, n_11]
      · simp (disch := omega) only [f2, Option.bind_some, aI_n, aL_n, aQ_n, sA_n, sL_n, csA_n, i_0, i_1, i_2, i_3, i_4, i_5, i_6, i_7, i_8, i_9, i_10, i_11, i_12, i_13, i_16, i_20, i_21, i_22, i_31, i_99, i_100, i_256, i_1000, nI_eq, nI_leI, nI_ltI, nI_add, pk_mul, ↓reduceIte, nt_le, nf_le, nt_lt, nf_lt, nt_eq, nf_eq, meet_N', meet_P', meet_S', meet_Z', meet_B', meet_O', n_1, n_2, n_3, n_4, n_5, n_10, n_11]
def enr (v : Nat → Int32) (a : Nat) : Nat → Int32
  | 0 => nI 0
  | k + 1 => if pop k = a then enr v a k + v k * v k else enr v a k
theorem St_energy_ok : St_energy Sim := by
  intro o z r a1 a2 h
  obtain ⟨h1, h2, h3, -⟩ := id h
  unfold fX9_energy fX9_energy_J22 fX10_energy fX10_energy_J26
  rcases plc h3 a1 with hx | ⟨k, hk, rfl, e, e'⟩ | ⟨k, q, n, kd, wt, g, b, hk, rfl, e, t1, t2, n1, n8, hg, d1, d2, d3, p2, p1⟩
  · refine ⟨(-2, z), (-2, r), ?_, ?_, rfl, h⟩
    · simp (disch := omega) only [told9_out hx, Option.bind_some, aI_n, aL_n, aQ_n, sA_n, sL_n, csA_n, i_0, i_1, i_2, i_3, i_4, i_5, i_6, i_7, i_8, i_9, i_10, i_11, i_12, i_13, i_16, i_20, i_21, i_22, i_31, i_99, i_100, i_256, i_1000, nI_eq, nI_leI, nI_ltI, nI_add, pk_mul, ↓reduceIte, nt_le, nf_le, nt_lt, nf_lt, nt_eq, nf_eq, meet_N', meet_P', meet_S', meet_Z', meet_B', meet_O', n_1, n_2, n_3, n_4, n_5, n_10, n_11]
    · simp (disch := omega) only [askT_out hx, Option.bind_some, aI_n, aL_n, aQ_n, sA_n, sL_n, csA_n, i_0, i_1, i_2, i_3, i_4, i_5, i_6, i_7, i_8, i_9, i_10, i_11, i_12, i_13, i_16, i_20, i_21, i_22, i_31, i_99, i_100, i_256, i_1000, nI_eq, nI_leI, nI_ltI, nI_add, pk_mul, ↓reduceIte, nt_le, nf_le, nt_lt, nf_lt, nt_eq, nf_eq, meet_N', meet_P', meet_S', meet_Z', meet_B', meet_O', n_1, n_2, n_3, n_4, n_5, n_10, n_11]
  · refine ⟨(-10, _), (-10, _), ?_, ?_, rfl, Sim_met h⟩
    · simp (disch := omega) only [told9_no hk e, Option.bind_some, aI_n, aL_n, aQ_n, sA_n, sL_n, csA_n, i_0, i_1, i_2, i_3, i_4, i_5, i_6, i_7, i_8, i_9, i_10, i_11, i_12, i_13, i_16, i_20, i_21, i_22, i_31, i_99, i_100, i_256, i_1000, nI_eq, nI_leI, nI_ltI, nI_add, pk_mul, ↓reduceIte, nt_le, nf_le, nt_lt, nf_lt, nt_eq, nf_eq, meet_N', meet_P', meet_S', meet_Z', meet_B', meet_O', n_1, n_2, n_3, n_4, n_5, n_10, n_11] <;> rfl
    · simp (disch := omega) only [askT_no hk e', Option.bind_some, aI_n, aL_n, aQ_n, sA_n, sL_n, csA_n, i_0, i_1, i_2, i_3, i_4, i_5, i_6, i_7, i_8, i_9, i_10, i_11, i_12, i_13, i_16, i_20, i_21, i_22, i_31, i_99, i_100, i_256, i_1000, nI_eq, nI_leI, nI_ltI, nI_add, pk_mul, ↓reduceIte, nt_le, nf_le, nt_lt, nf_lt, nt_eq, nf_eq, meet_N', meet_P', meet_S', meet_Z', meet_B', meet_O', n_1, n_2, n_3, n_4, n_5, n_10, n_11] <;> rfl
  · have hk16 : k < 16 := by omega
    have f1 := told9_yes (o := o) hk e t1
    have f2 := askT_yes hk t2 n1 n8 hg
    by_cases ht : cnt g 2 (2 ^ n) = 0
    · rw [if_pos ht] at f1 f2
      rcases ix a2 (n := 9) (by omega) with hx | ⟨a, ha, rfl⟩
      · refine ⟨(-2, z), (-2, r), ?_, ?_, rfl, h⟩
        · by_cases h0 : a2 < nI 0
          · simp (disch := omega) only [f1, h0, Option.bind_some, aI_n, aL_n, aQ_n, sA_n, sL_n, csA_n, i_0, i_1, i_2, i_3, i_4, i_5, i_6, i_7, i_8, i_9, i_10, i_11, i_12, i_13, i_16, i_20, i_21, i_22, i_31, i_99, i_100, i_256, i_1000, nI_eq, nI_leI, nI_ltI, nI_add, pk_mul, ↓reduceIte, nt_le, nf_le, nt_lt, nf_lt, nt_eq, nf_eq, meet_N', meet_P', meet_S', meet_Z', meet_B', meet_O', n_1, n_2, n_3, n_4, n_5, n_10, n_11]
          · have c2 : ¬ a2 ≤ nI 8 := out4 (m := 8) (by omega) hx h0
            simp (disch := omega) only [f1, h0, c2, Option.bind_some, aI_n, aL_n, aQ_n, sA_n, sL_n, csA_n, i_0, i_1, i_2, i_3, i_4, i_5, i_6, i_7, i_8, i_9, i_10, i_11, i_12, i_13, i_16, i_20, i_21, i_22, i_31, i_99, i_100, i_256, i_1000, nI_eq, nI_leI, nI_ltI, nI_add, pk_mul, ↓reduceIte, nt_le, nf_le, nt_lt, nf_lt, nt_eq, nf_eq, meet_N', meet_P', meet_S', meet_Z', meet_B', meet_O', n_1, n_2, n_3, n_4, n_5, n_10, n_11]
        · by_cases h0 : a2 < nI 0
          · simp (disch := omega) only [f2, h0, Option.bind_some, aI_n, aL_n, aQ_n, sA_n, sL_n, csA_n, i_0, i_1, i_2, i_3, i_4, i_5, i_6, i_7, i_8, i_9, i_10, i_11, i_12, i_13, i_16, i_20, i_21, i_22, i_31, i_99, i_100, i_256, i_1000, nI_eq, nI_leI, nI_ltI, nI_add, pk_mul, ↓reduceIte, nt_le, nf_le, nt_lt, nf_lt, nt_eq, nf_eq, meet_N', meet_P', meet_S', meet_Z', meet_B', meet_O', n_1, n_2, n_3, n_4, n_5, n_10, n_11]
          · have c2 : ¬ a2 ≤ nI 8 := out4 (m := 8) (by omega) hx h0
            simp (disch := omega) only [f2, h0, c2, Option.bind_some, aI_n, aL_n, aQ_n, sA_n, sL_n, csA_n, i_0, i_1, i_2, i_3, i_4, i_5, i_6, i_7, i_8, i_9, i_10, i_11, i_12, i_13, i_16, i_20, i_21, i_22, i_31, i_99, i_100, i_256, i_1000, nI_eq, nI_leI, nI_ltI, nI_add, pk_mul, ↓reduceIte, nt_le, nf_le, nt_lt, nf_lt, nt_eq, nf_eq, meet_N', meet_P', meet_S', meet_Z', meet_B', meet_O', n_1, n_2, n_3, n_4, n_5, n_10, n_11]
      · obtain ⟨f, u2, u3⟩ := TkB t1 d1
        obtain ⟨z', w1, w2, w3⟩ := loadS_n (o := o) n8 d1 u2 u3
        have y1 := ZR_T w2 d1
        obtain ⟨y2, y3⟩ := rd_f (ZR_B w2 u2) u3 n8
        generalize hV : AA Ks (fun x => nI 1 - nI (2 * g x)) n = V at *
        have k1 : lpN (fun u => fX9_energy_L48 o z' (nI a) q u.1 u.2) bigN (nI 0, nI 0) = some (enr V a (2 ^ n)) := by
          refine lp_det (body := fun u => fX9_energy_L48 o z' (nI a) q u.1 u.2) (fun i => (enr V a i, nI i)) (2 ^ n) (bigN_gt (by omega)) (fun i hi => ?_) ?_
          · have l2 := pop_le i
            unfold fX9_energy_L48 fX9_energy_L48_J94
            by_cases c : pop i = a
            · rw [show enr V a (i + 1) = enr V a i + V i * V i from if_pos c]
              simp (disch := omega) only [y1, y2, w3 i hi, bitC i (by omega), Option.bind_some, aI_n, aL_n, aQ_n, sA_n, sL_n, csA_n, i_0, i_1, i_2, i_3, i_4, i_5, i_6, i_7, i_8, i_9, i_10, i_11, i_12, i_13, i_16, i_20, i_21, i_22, i_31, i_99, i_100, i_256, i_1000, nI_eq, nI_leI, nI_ltI, nI_add, pk_mul, ↓reduceIte, nt_le, nf_le, nt_lt, nf_lt, nt_eq, nf_eq, meet_N', meet_P', meet_S', meet_Z', meet_B', meet_O', n_1, n_2, n_3, n_4, n_5, n_10, n_11]
            · rw [show enr V a (i + 1) = enr V a i from if_neg c]
              simp (disch := omega) only [y1, y2, w3 i hi, bitC i (by omega), Option.bind_some, aI_n, aL_n, aQ_n, sA_n, sL_n, csA_n, i_0, i_1, i_2, i_3, i_4, i_5, i_6, i_7, i_8, i_9, i_10, i_11, i_12, i_13, i_16, i_20, i_21, i_22, i_31, i_99, i_100, i_256, i_1000, nI_eq, nI_leI, nI_ltI, nI_add, pk_mul, ↓reduceIte, nt_le, nf_le, nt_lt, nf_lt, nt_eq, nf_eq, meet_N', meet_P', meet_S', meet_Z', meet_B', meet_O', n_1, n_2, n_3, n_4, n_5, n_10, n_11]
          · unfold fX9_energy_L48
            simp (disch := omega) only [y1, y2, Option.bind_some, aI_n, aL_n, aQ_n, sA_n, sL_n, csA_n, i_0, i_1, i_2, i_3, i_4, i_5, i_6, i_7, i_8, i_9, i_10, i_11, i_12, i_13, i_16, i_20, i_21, i_22, i_31, i_99, i_100, i_256, i_1000, nI_eq, nI_leI, nI_ltI, nI_add, pk_mul, ↓reduceIte, nt_le, nf_le, nt_lt, nf_lt, nt_eq, nf_eq, meet_N', meet_P', meet_S', meet_Z', meet_B', meet_O', n_1, n_2, n_3, n_4, n_5, n_10, n_11]
        have k2 : lpN (fun u => fX10_energy_L35 r (nI k) (nI a) u.1 u.2) bigN (nI 0, nI 0) = some (enr V a (2 ^ n)) := by
          refine lp_det (body := fun u => fX10_energy_L35 r (nI k) (nI a) u.1 u.2) (fun i => (enr V a i, nI i)) (2 ^ n) (bigN_gt (by omega)) (fun i hi => ?_) ?_
          · have l2 := pop_le i
            have po := signOf_n hk16 t2 n8 (told_le hg ht) hi
            rw [hV] at po
            unfold fX10_energy_L35 fX10_energy_L35_J75
            by_cases c : pop i = a
            · rw [show enr V a (i + 1) = enr V a i + V i * V i from if_pos c]
              simp (disch := omega) only [inputs_n hk16 t2.1 n8, po, ones_n (show i < 256 by omega), Option.bind_some, aI_n, aL_n, aQ_n, sA_n, sL_n, csA_n, i_0, i_1, i_2, i_3, i_4, i_5, i_6, i_7, i_8, i_9, i_10, i_11, i_12, i_13, i_16, i_20, i_21, i_22, i_31, i_99, i_100, i_256, i_1000, nI_eq, nI_leI, nI_ltI, nI_add, pk_mul, ↓reduceIte, nt_le, nf_le, nt_lt, nf_lt, nt_eq, nf_eq, meet_N', meet_P', meet_S', meet_Z', meet_B', meet_O', n_1, n_2, n_3, n_4, n_5, n_10, n_11]
            · rw [show enr V a (i + 1) = enr V a i from if_neg c]
              simp (disch := omega) only [inputs_n hk16 t2.1 n8, po, ones_n (show i < 256 by omega), Option.bind_some, aI_n, aL_n, aQ_n, sA_n, sL_n, csA_n, i_0, i_1, i_2, i_3, i_4, i_5, i_6, i_7, i_8, i_9, i_10, i_11, i_12, i_13, i_16, i_20, i_21, i_22, i_31, i_99, i_100, i_256, i_1000, nI_eq, nI_leI, nI_ltI, nI_add, pk_mul, ↓reduceIte, nt_le, nf_le, nt_lt, nf_lt, nt_eq, nf_eq, meet_N', meet_P', meet_S', meet_Z', meet_B', meet_O', n_1, n_2, n_3, n_4, n_5, n_10, n_11]
              rw [show enr V a i + nI 0 = enr V a i from Int32.add_zero _]
          · unfold fX10_energy_L35
            simp (disch := omega) only [inputs_n hk16 t2.1 n8, Option.bind_some, aI_n, aL_n, aQ_n, sA_n, sL_n, csA_n, i_0, i_1, i_2, i_3, i_4, i_5, i_6, i_7, i_8, i_9, i_10, i_11, i_12, i_13, i_16, i_20, i_21, i_22, i_31, i_99, i_100, i_256, i_1000, nI_eq, nI_leI, nI_ltI, nI_add, pk_mul, ↓reduceIte, nt_le, nf_le, nt_lt, nf_lt, nt_eq, nf_eq, meet_N', meet_P', meet_S', meet_Z', meet_B', meet_O', n_1, n_2, n_3, n_4, n_5, n_10, n_11]
        refine ⟨(enr V a (2 ^ n), z'), (enr V a (2 ^ n), r), ?_, ?_, rfl, Sim_zr h w2⟩
        · simp (disch := omega) only [f1, e, w1, k1, Option.bind_some, aI_n, aL_n, aQ_n, sA_n, sL_n, csA_n, i_0, i_1, i_2, i_3, i_4, i_5, i_6, i_7, i_8, i_9, i_10, i_11, i_12, i_13, i_16, i_20, i_21, i_22, i_31, i_99, i_100, i_256, i_1000, nI_eq, nI_leI, nI_ltI, nI_add, pk_mul, ↓reduceIte, nt_le, nf_le, nt_lt, nf_lt, nt_eq, nf_eq, meet_N', meet_P', meet_S', meet_Z', meet_B', meet_O', n_1, n_2, n_3, n_4, n_5, n_10, n_11]
        · simp (disch := omega) only [f2, k2, Option.bind_some, aI_n, aL_n, aQ_n, sA_n, sL_n, csA_n, i_0, i_1, i_2, i_3, i_4, i_5, i_6, i_7, i_8, i_9, i_10, i_11, i_12, i_13, i_16, i_20, i_21, i_22, i_31, i_99, i_100, i_256, i_1000, nI_eq, nI_leI, nI_ltI, nI_add, pk_mul, ↓reduceIte, nt_le, nf_le, nt_lt, nf_lt, nt_eq, nf_eq, meet_N', meet_P', meet_S', meet_Z', meet_B', meet_O', n_1, n_2, n_3, n_4, n_5, n_10, n_11]
    · rw [if_neg ht] at f1 f2
      refine ⟨(-4, z), (-4, r), ?_, ?_, rfl, h⟩
      · simp (disch := omega) only [f1, Option.bind_some, aI_n, aL_n, aQ_n, sA_n, sL_n, csA_n, i_0, i_1, i_2, i_3, i_4, i_5, i_6, i_7, i_8, i_9, i_10, i_11, i_12, i_13, i_16, i_20, i_21, i_22, i_31, i_99, i_100, i_256, i_1000, nI_eq, nI_leI, nI_ltI, nI_add, pk_mul, ↓reduceIte, nt_le, nf_le, nt_lt, nf_lt, nt_eq, nf_eq, meet_N', meet_P', meet_S', meet_Z', meet_B', meet_O', n_1, n_2, n_3, n_4, n_5, n_10, n_11]
      · simp (disch := omega) only [f2, Option.bind_some, aI_n, aL_n, aQ_n, sA_n, sL_n, csA_n, i_0, i_1, i_2, i_3, i_4, i_5, i_6, i_7, i_8, i_9, i_10, i_11, i_12, i_13, i_16, i_20, i_21, i_22, i_31, i_99, i_100, i_256, i_1000, nI_eq, nI_leI, nI_ltI, nI_add, pk_mul, ↓reduceIte, nt_le, nf_le, nt_lt, nf_lt, nt_eq, nf_eq, meet_N', meet_P', meet_S', meet_Z', meet_B', meet_O', n_1, n_2, n_3, n_4, n_5, n_10, n_11]
def pll (g : Nat → Nat) (i : Nat) : Nat → Nat
  | 0 => 0
  | k + 1 => pll g i k + if g k = g (k ^^^ 2 ^ i) then 0 else 1
theorem St_pull_ok : St_pull Sim := by
  intro o z r a1 a2 h
  obtain ⟨h1, h2, h3, -⟩ := id h
  unfold fX9_pull fX9_pull_J33 fX10_pull fX10_pull_J30
  rcases plc h3 a1 with hx | ⟨k, hk, rfl, e, e'⟩ | ⟨k, q, n, kd, wt, g, b, hk, rfl, e, t1, t2, n1, n8, hg, d1, d2, d3, p2, p1⟩
  · refine ⟨(-2, z), (-2, r), ?_, ?_, rfl, h⟩
    · simp (disch := omega) only [told9_out hx, Option.bind_some, aI_n, aL_n, aQ_n, sA_n, sL_n, csA_n, i_0, i_1, i_2, i_3, i_4, i_5, i_6, i_7, i_8, i_9, i_10, i_11, i_12, i_13, i_16, i_20, i_21, i_22, i_31, i_99, i_100, i_256, i_1000, nI_eq, nI_leI, nI_ltI, nI_add, pk_mul, ↓reduceIte, nt_le, nf_le, nt_lt, nf_lt, nt_eq, nf_eq, meet_N', meet_P', meet_S', meet_Z', meet_B', meet_O', n_1, n_2, n_3, n_4, n_5, n_10, n_11]
    · simp (disch := omega) only [askT_out hx, Option.bind_some, aI_n, aL_n, aQ_n, sA_n, sL_n, csA_n, i_0, i_1, i_2, i_3, i_4, i_5, i_6, i_7, i_8, i_9, i_10, i_11, i_12, i_13, i_16, i_20, i_21, i_22, i_31, i_99, i_100, i_256, i_1000, nI_eq, nI_leI, nI_ltI, nI_add, pk_mul, ↓reduceIte, nt_le, nf_le, nt_lt, nf_lt, nt_eq, nf_eq, meet_N', meet_P', meet_S', meet_Z', meet_B', meet_O', n_1, n_2, n_3, n_4, n_5, n_10, n_11]
  · refine ⟨(-10, _), (-10, _), ?_, ?_, rfl, Sim_met h⟩
    · simp (disch := omega) only [told9_no hk e, Option.bind_some, aI_n, aL_n, aQ_n, sA_n, sL_n, csA_n, i_0, i_1, i_2, i_3, i_4, i_5, i_6, i_7, i_8, i_9, i_10, i_11, i_12, i_13, i_16, i_20, i_21, i_22, i_31, i_99, i_100, i_256, i_1000, nI_eq, nI_leI, nI_ltI, nI_add, pk_mul, ↓reduceIte, nt_le, nf_le, nt_lt, nf_lt, nt_eq, nf_eq, meet_N', meet_P', meet_S', meet_Z', meet_B', meet_O', n_1, n_2, n_3, n_4, n_5, n_10, n_11] <;> rfl
    · simp (disch := omega) only [askT_no hk e', Option.bind_some, aI_n, aL_n, aQ_n, sA_n, sL_n, csA_n, i_0, i_1, i_2, i_3, i_4, i_5, i_6, i_7, i_8, i_9, i_10, i_11, i_12, i_13, i_16, i_20, i_21, i_22, i_31, i_99, i_100, i_256, i_1000, nI_eq, nI_leI, nI_ltI, nI_add, pk_mul, ↓reduceIte, nt_le, nf_le, nt_lt, nf_lt, nt_eq, nf_eq, meet_N', meet_P', meet_S', meet_Z', meet_B', meet_O', n_1, n_2, n_3, n_4, n_5, n_10, n_11] <;> rfl
  · have hk16 : k < 16 := by omega
    have f1 := told9_yes (o := o) hk e t1
    have f2 := askT_yes hk t2 n1 n8 hg
    by_cases ht : cnt g 2 (2 ^ n) = 0
    · rw [if_pos ht] at f1 f2
      rcases ix a2 (n := n) (by omega) with hx | ⟨i, hi, rfl⟩
      · refine ⟨(-2, z), (-2, r), ?_, ?_, rfl, h⟩
        · by_cases h0 : a2 < nI 0
          · simp (disch := omega) only [f1, e, h0, Option.bind_some, aI_n, aL_n, aQ_n, sA_n, sL_n, csA_n, i_0, i_1, i_2, i_3, i_4, i_5, i_6, i_7, i_8, i_9, i_10, i_11, i_12, i_13, i_16, i_20, i_21, i_22, i_31, i_99, i_100, i_256, i_1000, nI_eq, nI_leI, nI_ltI, nI_add, pk_mul, ↓reduceIte, nt_le, nf_le, nt_lt, nf_lt, nt_eq, nf_eq, meet_N', meet_P', meet_S', meet_Z', meet_B', meet_O', n_1, n_2, n_3, n_4, n_5, n_10, n_11]
          · have c2 : ¬ a2 < nI n := ge_nlt (by omega) (hx.resolve_left h0)
            simp (disch := omega) only [f1, e, h0, d1, c2, Option.bind_some, aI_n, aL_n, aQ_n, sA_n, sL_n, csA_n, i_0, i_1, i_2, i_3, i_4, i_5, i_6, i_7, i_8, i_9, i_10, i_11, i_12, i_13, i_16, i_20, i_21, i_22, i_31, i_99, i_100, i_256, i_1000, nI_eq, nI_leI, nI_ltI, nI_add, pk_mul, ↓reduceIte, nt_le, nf_le, nt_lt, nf_lt, nt_eq, nf_eq, meet_N', meet_P', meet_S', meet_Z', meet_B', meet_O', n_1, n_2, n_3, n_4, n_5, n_10, n_11]
        · by_cases h0 : a2 < nI 0
          · simp (disch := omega) only [f2, h0, Option.bind_some, aI_n, aL_n, aQ_n, sA_n, sL_n, csA_n, i_0, i_1, i_2, i_3, i_4, i_5, i_6, i_7, i_8, i_9, i_10, i_11, i_12, i_13, i_16, i_20, i_21, i_22, i_31, i_99, i_100, i_256, i_1000, nI_eq, nI_leI, nI_ltI, nI_add, pk_mul, ↓reduceIte, nt_le, nf_le, nt_lt, nf_lt, nt_eq, nf_eq, meet_N', meet_P', meet_S', meet_Z', meet_B', meet_O', n_1, n_2, n_3, n_4, n_5, n_10, n_11]
          · have c2 : ¬ a2 < nI n := ge_nlt (by omega) (hx.resolve_left h0)
            simp (disch := omega) only [f2, h0, t2.1, c2, Option.bind_some, aI_n, aL_n, aQ_n, sA_n, sL_n, csA_n, i_0, i_1, i_2, i_3, i_4, i_5, i_6, i_7, i_8, i_9, i_10, i_11, i_12, i_13, i_16, i_20, i_21, i_22, i_31, i_99, i_100, i_256, i_1000, nI_eq, nI_leI, nI_ltI, nI_add, pk_mul, ↓reduceIte, nt_le, nf_le, nt_lt, nf_lt, nt_eq, nf_eq, meet_N', meet_P', meet_S', meet_Z', meet_B', meet_O', n_1, n_2, n_3, n_4, n_5, n_10, n_11]
      · have hxl : ∀ x, x < 2 ^ n → x ^^^ 2 ^ i < 2 ^ n := fun x hx => Nat.xor_lt_two_pow hx (Nat.pow_lt_pow_right (by omega) hi)
        have k1 : lpN (fun u => fX9_pull_L42 o z (nI i) q u.1 u.2) bigN (nI 0, nI 0) = some (nI (pll g i (2 ^ n))) := by
          refine lp_det (body := fun u => fX9_pull_L42 o z (nI i) q u.1 u.2) (fun x => (nI (pll g i x), nI x)) (2 ^ n) (bigN_gt (by omega)) (fun x hx => ?_) ?_
          · have g1 := hg x
            have g2 := hg (x ^^^ 2 ^ i)
            unfold fX9_pull_L42 fX9_pull_L42_J83
            by_cases c : g x = g (x ^^^ 2 ^ i)
            · rw [show pll g i (x + 1) = pll g i x + 0 by show _ + (if _ then 0 else 1) = _; rw [if_pos c]]
              simp (disch := omega) only [d1, d2, d3 x hx, shl1' i (by omega), nI_xor, d3 _ (hxl x hx), Option.bind_some, aI_n, aL_n, aQ_n, sA_n, sL_n, csA_n, i_0, i_1, i_2, i_3, i_4, i_5, i_6, i_7, i_8, i_9, i_10, i_11, i_12, i_13, i_16, i_20, i_21, i_22, i_31, i_99, i_100, i_256, i_1000, nI_eq, nI_leI, nI_ltI, nI_add, pk_mul, ↓reduceIte, nt_le, nf_le, nt_lt, nf_lt, nt_eq, nf_eq, meet_N', meet_P', meet_S', meet_Z', meet_B', meet_O', n_1, n_2, n_3, n_4, n_5, n_10, n_11]
            · rw [show pll g i (x + 1) = pll g i x + 1 by show _ + (if _ then 0 else 1) = _; rw [if_neg c]]
              simp (disch := omega) only [d1, d2, d3 x hx, shl1' i (by omega), nI_xor, d3 _ (hxl x hx), Option.bind_some, aI_n, aL_n, aQ_n, sA_n, sL_n, csA_n, i_0, i_1, i_2, i_3, i_4, i_5, i_6, i_7, i_8, i_9, i_10, i_11, i_12, i_13, i_16, i_20, i_21, i_22, i_31, i_99, i_100, i_256, i_1000, nI_eq, nI_leI, nI_ltI, nI_add, pk_mul, ↓reduceIte, nt_le, nf_le, nt_lt, nf_lt, nt_eq, nf_eq, meet_N', meet_P', meet_S', meet_Z', meet_B', meet_O', n_1, n_2, n_3, n_4, n_5, n_10, n_11]
          · unfold fX9_pull_L42
            simp (disch := omega) only [d1, d2, Option.bind_some, aI_n, aL_n, aQ_n, sA_n, sL_n, csA_n, i_0, i_1, i_2, i_3, i_4, i_5, i_6, i_7, i_8, i_9, i_10, i_11, i_12, i_13, i_16, i_20, i_21, i_22, i_31, i_99, i_100, i_256, i_1000, nI_eq, nI_leI, nI_ltI, nI_add, pk_mul, ↓reduceIte, nt_le, nf_le, nt_lt, nf_lt, nt_eq, nf_eq, meet_N', meet_P', meet_S', meet_Z', meet_B', meet_O', n_1, n_2, n_3, n_4, n_5, n_10, n_11]
        have k2 : lpN (fun u => fX10_pull_L39 r (nI k) (nI i) u.1 u.2) bigN (nI 0, nI 0) = some (nI (pll g i (2 ^ n))) := by
          refine lp_det (body := fun u => fX10_pull_L39 r (nI k) (nI i) u.1 u.2) (fun x => (nI (pll g i x), nI x)) (2 ^ n) (bigN_gt (by omega)) (fun x hx => ?_) ?_
          · have g1 := hg x
            have g2 := hg (x ^^^ 2 ^ i)
            unfold fX10_pull_L39 fX10_pull_L39_J77
            by_cases c : g x = g (x ^^^ 2 ^ i)
            · rw [show pll g i (x + 1) = pll g i x + 0 by show _ + (if _ then 0 else 1) = _; rw [if_pos c]]
              simp (disch := omega) only [inputs_n hk16 t2.1 n8, say0_n hk16 t2 n8 hx, shl1' i (by omega), nI_xor, say0_n hk16 t2 n8 (hxl x hx), Option.bind_some, aI_n, aL_n, aQ_n, sA_n, sL_n, csA_n, i_0, i_1, i_2, i_3, i_4, i_5, i_6, i_7, i_8, i_9, i_10, i_11, i_12, i_13, i_16, i_20, i_21, i_22, i_31, i_99, i_100, i_256, i_1000, nI_eq, nI_leI, nI_ltI, nI_add, pk_mul, ↓reduceIte, nt_le, nf_le, nt_lt, nf_lt, nt_eq, nf_eq, meet_N', meet_P', meet_S', meet_Z', meet_B', meet_O', n_1, n_2, n_3, n_4, n_5, n_10, n_11]
            · rw [show pll g i (x + 1) = pll g i x + 1 by show _ + (if _ then 0 else 1) = _; rw [if_neg c]]
              simp (disch := omega) only [inputs_n hk16 t2.1 n8, say0_n hk16 t2 n8 hx, shl1' i (by omega), nI_xor, say0_n hk16 t2 n8 (hxl x hx), Option.bind_some, aI_n, aL_n, aQ_n, sA_n, sL_n, csA_n, i_0, i_1, i_2, i_3, i_4, i_5, i_6, i_7, i_8, i_9, i_10, i_11, i_12, i_13, i_16, i_20, i_21, i_22, i_31, i_99, i_100, i_256, i_1000, nI_eq, nI_leI, nI_ltI, nI_add, pk_mul, ↓reduceIte, nt_le, nf_le, nt_lt, nf_lt, nt_eq, nf_eq, meet_N', meet_P', meet_S', meet_Z', meet_B', meet_O', n_1, n_2, n_3, n_4, n_5, n_10, n_11]
          · unfold fX10_pull_L39
            simp (disch := omega) only [inputs_n hk16 t2.1 n8, Option.bind_some, aI_n, aL_n, aQ_n, sA_n, sL_n, csA_n, i_0, i_1, i_2, i_3, i_4, i_5, i_6, i_7, i_8, i_9, i_10, i_11, i_12, i_13, i_16, i_20, i_21, i_22, i_31, i_99, i_100, i_256, i_1000, nI_eq, nI_leI, nI_ltI, nI_add, pk_mul, ↓reduceIte, nt_le, nf_le, nt_lt, nf_lt, nt_eq, nf_eq, meet_N', meet_P', meet_S', meet_Z', meet_B', meet_O', n_1, n_2, n_3, n_4, n_5, n_10, n_11]
        refine ⟨(nI (pll g i (2 ^ n)), z), (nI (pll g i (2 ^ n)), r), ?_, ?_, rfl, h⟩
        · simp (disch := omega) only [f1, e, d1, k1, Option.bind_some, aI_n, aL_n, aQ_n, sA_n, sL_n, csA_n, i_0, i_1, i_2, i_3, i_4, i_5, i_6, i_7, i_8, i_9, i_10, i_11, i_12, i_13, i_16, i_20, i_21, i_22, i_31, i_99, i_100, i_256, i_1000, nI_eq, nI_leI, nI_ltI, nI_add, pk_mul, ↓reduceIte, nt_le, nf_le, nt_lt, nf_lt, nt_eq, nf_eq, meet_N', meet_P', meet_S', meet_Z', meet_B', meet_O', n_1, n_2, n_3, n_4, n_5, n_10, n_11]
        · simp (disch := omega) only [f2, t2.1, k2, Option.bind_some, aI_n, aL_n, aQ_n, sA_n, sL_n, csA_n, i_0, i_1, i_2, i_3, i_4, i_5, i_6, i_7, i_8, i_9, i_10, i_11, i_12, i_13, i_16, i_20, i_21, i_22, i_31, i_99, i_100, i_256, i_1000, nI_eq, nI_leI, nI_ltI, nI_add, pk_mul, ↓reduceIte, nt_le, nf_le, nt_lt, nf_lt, nt_eq, nf_eq, meet_N', meet_P', meet_S', meet_Z', meet_B', meet_O', n_1, n_2, n_3, n_4, n_5, n_10, n_11]
    · rw [if_neg ht] at f1 f2
      refine ⟨(-4, z), (-4, r), ?_, ?_, rfl, h⟩
      · simp (disch := omega) only [f1, Option.bind_some, aI_n, aL_n, aQ_n, sA_n, sL_n, csA_n, i_0, i_1, i_2, i_3, i_4, i_5, i_6, i_7, i_8, i_9, i_10, i_11, i_12, i_13, i_16, i_20, i_21, i_22, i_31, i_99, i_100, i_256, i_1000, nI_eq, nI_leI, nI_ltI, nI_add, pk_mul, ↓reduceIte, nt_le, nf_le, nt_lt, nf_lt, nt_eq, nf_eq, meet_N', meet_P', meet_S', meet_Z', meet_B', meet_O', n_1, n_2, n_3, n_4, n_5, n_10, n_11]
      · simp (disch := omega) only [f2, Option.bind_some, aI_n, aL_n, aQ_n, sA_n, sL_n, csA_n, i_0, i_1, i_2, i_3, i_4, i_5, i_6, i_7, i_8, i_9, i_10, i_11, i_12, i_13, i_16, i_20, i_21, i_22, i_31, i_99, i_100, i_256, i_1000, nI_eq, nI_leI, nI_ltI, nI_add, pk_mul, ↓reduceIte, nt_le, nf_le, nt_lt, nf_lt, nt_eq, nf_eq, meet_N', meet_P', meet_S', meet_Z', meet_B', meet_O', n_1, n_2, n_3, n_4, n_5, n_10, n_11]
