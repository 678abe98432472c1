theorem TkAt_pool {z z' : CS} {q n : Nat} {kd wt : Int32} {g : Nat → Nat} (hp : z'.2.2.2.2 = z.2.2.2.2) (h : TkAt z q n kd wt g) : TkAt z' q n kd wt g := (TkGe_id (by rw [hp])).at h
theorem pool_ge {z z' : CS} (hp : z'.2.2.2.2 = z.2.2.2.2) : PoolGe z z' := fun q x e => by
  have : cpl z' q = cpl z q := by unfold cpl; rw [hp]
  rw [this]; exact e
theorem bsI_if (bs : Bool) : bsI bs = if bs then 1 else 0 := by cases bs <;> rfl
/-- the class's cubes have been weighed anew -/
theorem Sim_w5 {o : Nat} {z z' : CS} {r : RS} (h : Sim o z r) (h1 : ∀ k, k ≠ 4 → k ≠ 5 → z'.1 k = z.1 k) (h2 : ∀ k, k ≠ 1 → k ≠ 2 → z'.2.1 k = z.2.1 k) (h3 : z'.2.2.1 = z.2.2.1) (h4 : ∀ j, j ≠ 0 → z'.2.2.2.1 j = z.2.2.2.1 j) (h5 : z'.2.2.2.2 = z.2.2.2.2) (hc : CuR z' 0 1 2 4 5) : Sim o z' r := by
  obtain ⟨g1, g2, g3, g4, g5, g6, g7, g8, g9, g10, g11, g12, g13⟩ := h
  have ge : TkGe z z' := TkGe_id (by rw [h5])
  refine ⟨?_, ?_, ?_, ?_, ?_, ?_, g7, ?_, ?_, ?_, hc, ?_, ?_⟩
  · unfold PoolOK cpl cn at g1 ⊢
    rw [h5]; exact g1
  · exact ShR_ge g2 (pool_ge h5) (ShR_okd g2) (by rw [h3]) ⟨rfl, rfl, rfl⟩
  · exact PlR_all g3 ge (fun j _ => by rw [h3]) (fun p _ => RSame.rf)
  · exact PlR_all g4 ge (fun j _ => by rw [h3]) (fun p _ => RSame.rf)
  · unfold WtR at g5 ⊢
    rw [h1 1 (by omega) (by omega), h2 0 (by omega) (by omega)]; exact g5
  · unfold ScR at g6 ⊢
    rw [h1 3 (by omega) (by omega), h1 0 (by omega) (by omega), h1 2 (by omega) (by omega)]; exact g6
  · unfold TrR at g8 ⊢
    rw [h1 6 (by omega) (by omega), h2 3 (by omega) (by omega), h2 4 (by omega) (by omega), h2 5 (by omega) (by omega)]; exact g8
  · unfold FoR at g9 ⊢
    rw [h1 9 (by omega) (by omega), h2 13 (by omega) (by omega)]; exact g9
  · unfold LeR at g10 ⊢
    rw [h1 11 (by omega) (by omega), h2 16 (by omega) (by omega)]; exact g10
  · exact CuR_ge g12 ge (h4 1 (by omega)) (h1 16 (by omega) (by omega)) (h1 15 (by omega) (by omega)) (h2 17 (by omega) (by omega)) (h2 18 (by omega) (by omega))
  · exact GaR_ge g13 ge (h4 1 (by omega)) ⟨h1 12 (by omega) (by omega), h1 13 (by omega) (by omega), h1 14 (by omega) (by omega), h1 15 (by omega) (by omega)⟩ ⟨rfl, rfl, rfl, rfl⟩
/-- the class weighs, and the relation holds on -/
theorem weighS_5 {o : Nat} {z : CS} {r : RS} {q n : Nat} {g : Nat → Nat} {bs : Bool} {kd wt : Int32} (h : Sim o z r) (t1 : TkAt z q n kd wt g) : ∃ z', fX1_weigh_5 o z q (bsI bs) = some z' ∧ Sim o z' r ∧ (∀ k, k ≠ 4 → k ≠ 5 → z'.1 k = z.1 k) ∧ (∀ k, k ≠ 1 → k ≠ 2 → z'.2.1 k = z.2.1 k) ∧ z'.2.2.1 = z.2.2.1 ∧ z'.2.2.2.2 = z.2.2.2.2 ∧ z'.2.2.2.1 0 = some q ∧ z'.1 4 = bsI bs ∧ z'.1 5 = nI (3 ^ n - 1) ∧ ∀ c, c < 3 ^ n → z'.2.1 1 c = nI (hasT n g c) ∧ z'.2.1 2 c = nI (wT n g bs c) := by
  obtain ⟨z', w1, w2, w3, w4, w5, w6, w7, w8, w9, w10⟩ := weigh_5 (o := o) (bs := bs) h.2.2.2.2.2.2.2.2.2.2.1 t1
  refine ⟨z', w1, Sim_w5 h w2 w3 w4 w5 w6 (fun q' hq' => ?_), w2, w3, w4, w6, w7, w8, w9, w10⟩
  rw [w7] at hq'
  obtain rfl := Option.some.inj hq'
  exact ⟨n, kd, wt, g, bs, TkAt_pool w6 t1, w9, by rw [w8, bsI_if], w10⟩
theorem St_depth_ok : St_depth Sim := by
  intro o z r a1 h
  obtain ⟨h1, h2, h3, h4, h5, h6, h7, -⟩ := id h
  unfold fX9_depth fX9_weightOf fX10_depth
  rcases plc h3 a1 with hx | ⟨k, hk, rfl, e, e'⟩ | ⟨k, q, n, kd, wt, g, b, hk, rfl, e, t1, t2, n1, n8, hg, d1, d2, d3, p2, p1⟩
  · refine ⟨(-2, z), (-2, r), ?_, ?_, rfl, h⟩
    · simp (disch := omega) only [find9_out hx, Option.bind_some, aI_n, aL_n, aQ_n, sA_n, sL_n, csA_n, i_0, i_1, i_2, i_3, i_4, i_5, i_6, i_7, i_8, i_9, i_10, i_11, i_12, i_13, i_16, i_20, i_21, i_22, i_31, i_99, i_100, i_256, i_1000, nI_eq, nI_leI, nI_ltI, nI_add, pk_mul, ↓reduceIte, nt_le, nf_le, nt_lt, nf_lt, nt_eq, nf_eq, meet_N', meet_P', meet_S', meet_Z', meet_B', meet_O', n_1, n_2, n_3, n_4, n_5, n_10, n_11]
    · simp (disch := omega) only [askP_out hx, Option.bind_some, aI_n, aL_n, aQ_n, sA_n, sL_n, csA_n, i_0, i_1, i_2, i_3, i_4, i_5, i_6, i_7, i_8, i_9, i_10, i_11, i_12, i_13, i_16, i_20, i_21, i_22, i_31, i_99, i_100, i_256, i_1000, nI_eq, nI_leI, nI_ltI, nI_add, pk_mul, ↓reduceIte, nt_le, nf_le, nt_lt, nf_lt, nt_eq, nf_eq, meet_N', meet_P', meet_S', meet_Z', meet_B', meet_O', n_1, n_2, n_3, n_4, n_5, n_10, n_11]
  · refine ⟨(-10, _), (-10, _), ?_, ?_, rfl, Sim_met h⟩
    · simp (disch := omega) only [find9_no hk e, Option.bind_some, aI_n, aL_n, aQ_n, sA_n, sL_n, csA_n, i_0, i_1, i_2, i_3, i_4, i_5, i_6, i_7, i_8, i_9, i_10, i_11, i_12, i_13, i_16, i_20, i_21, i_22, i_31, i_99, i_100, i_256, i_1000, nI_eq, nI_leI, nI_ltI, nI_add, pk_mul, ↓reduceIte, nt_le, nf_le, nt_lt, nf_lt, nt_eq, nf_eq, meet_N', meet_P', meet_S', meet_Z', meet_B', meet_O', n_1, n_2, n_3, n_4, n_5, n_10, n_11] <;> rfl
    · simp (disch := omega) only [askP_no hk e', Option.bind_some, aI_n, aL_n, aQ_n, sA_n, sL_n, csA_n, i_0, i_1, i_2, i_3, i_4, i_5, i_6, i_7, i_8, i_9, i_10, i_11, i_12, i_13, i_16, i_20, i_21, i_22, i_31, i_99, i_100, i_256, i_1000, nI_eq, nI_leI, nI_ltI, nI_add, pk_mul, ↓reduceIte, nt_le, nf_le, nt_lt, nf_lt, nt_eq, nf_eq, meet_N', meet_P', meet_S', meet_Z', meet_B', meet_O', n_1, n_2, n_3, n_4, n_5, n_10, n_11] <;> rfl
  · have h6 := p3le n8
    have h0 := p3 n
    obtain ⟨z', w1, w2, w3, w4, w5, w6, w7, w8, w9, w10⟩ := weighS_5 (o := o) (bs := false) h t1
    obtain ⟨r', v1, v2⟩ := tell_n h7 (show k < 16 by omega) t2 hg n8
    have t2' : r'.2.1 0 k = nI n := by rw [v2.2.2.1 0 (by omega)]; exact t2.1
    refine ⟨(nI (wT n g false (3 ^ n - 1)), z'), (nI (wT n g false (3 ^ n - 1)), r'), ?_, ?_, rfl, v2.sim w2⟩
    · have w1' : fX1_weigh_5 o z q (nI 0) = some z' := w1
      unfold fX1_weightOfAll_5
      simp (disch := omega) only [find9_yes hk e, e, w1', w9, (w10 (3 ^ n - 1) (by omega)).2, Option.bind_some, aI_n, aL_n, aQ_n, sA_n, sL_n, csA_n, i_0, i_1, i_2, i_3, i_4, i_5, i_6, i_7, i_8, i_9, i_10, i_11, i_12, i_13, i_16, i_20, i_21, i_22, i_31, i_99, i_100, i_256, i_1000, nI_eq, nI_leI, nI_ltI, nI_add, pk_mul, ↓reduceIte, nt_le, nf_le, nt_lt, nf_lt, nt_eq, nf_eq, meet_N', meet_P', meet_S', meet_Z', meet_B', meet_O', n_1, n_2, n_3, n_4, n_5, n_10, n_11]
    · simp (disch := omega) only [askP_yes hk t2.1 n1 n8, v1, whole_n (v2.pw h7) (show k < 16 by omega) t2' n8, (v2.2.2.2 (3 ^ n - 1) (by omega)).2.1, Option.bind_some, aI_n, aL_n, aQ_n, sA_n, sL_n, csA_n, i_0, i_1, i_2, i_3, i_4, i_5, i_6, i_7, i_8, i_9, i_10, i_11, i_12, i_13, i_16, i_20, i_21, i_22, i_31, i_99, i_100, i_256, i_1000, nI_eq, nI_leI, nI_ltI, nI_add, pk_mul, ↓reduceIte, nt_le, nf_le, nt_lt, nf_lt, nt_eq, nf_eq, meet_N', meet_P', meet_S', meet_Z', meet_B', meet_O', n_1, n_2, n_3, n_4, n_5, n_10, n_11]
theorem St_sum_ok : St_sum Sim := by
  intro o z r a1 h
  obtain ⟨h1, h2, h3, h4, h5, h6, h7, -⟩ := id h
  unfold fX9_sum fX9_weightOf fX10_sum
  rcases plc h3 a1 with hx | ⟨k, hk, rfl, e, e'⟩ | ⟨k, q, n, kd, wt, g, b, hk, rfl, e, t1, t2, n1, n8, hg, d1, d2, d3, p2, p1⟩
  · refine ⟨(-2, z), (-2, r), ?_, ?_, rfl, h⟩
    · simp (disch := omega) only [find9_out hx, Option.bind_some, aI_n, aL_n, aQ_n, sA_n, sL_n, csA_n, i_0, i_1, i_2, i_3, i_4, i_5, i_6, i_7, i_8, i_9, i_10, i_11, i_12, i_13, i_16, i_20, i_21, i_22, i_31, i_99, i_100, i_256, i_1000, nI_eq, nI_leI, nI_ltI, nI_add, pk_mul, ↓reduceIte, nt_le, nf_le, nt_lt, nf_lt, nt_eq, nf_eq, meet_N', meet_P', meet_S', meet_Z', meet_B', meet_O', n_1, n_2, n_3, n_4, n_5, n_10, n_11]
    · simp (disch := omega) only [askP_out hx, Option.bind_some, aI_n, aL_n, aQ_n, sA_n, sL_n, csA_n, i_0, i_1, i_2, i_3, i_4, i_5, i_6, i_7, i_8, i_9, i_10, i_11, i_12, i_13, i_16, i_20, i_21, i_22, i_31, i_99, i_100, i_256, i_1000, nI_eq, nI_leI, nI_ltI, nI_add, pk_mul, ↓reduceIte, nt_le, nf_le, nt_lt, nf_lt, nt_eq, nf_eq, meet_N', meet_P', meet_S', meet_Z', meet_B', meet_O', n_1, n_2, n_3, n_4, n_5, n_10, n_11]
  · refine ⟨(-10, _), (-10, _), ?_, ?_, rfl, Sim_met h⟩
    · simp (disch := omega) only [find9_no hk e, Option.bind_some, aI_n, aL_n, aQ_n, sA_n, sL_n, csA_n, i_0, i_1, i_2, i_3, i_4, i_5, i_6, i_7, i_8, i_9, i_10, i_11, i_12, i_13, i_16, i_20, i_21, i_22, i_31, i_99, i_100, i_256, i_1000, nI_eq, nI_leI, nI_ltI, nI_add, pk_mul, ↓reduceIte, nt_le, nf_le, nt_lt, nf_lt, nt_eq, nf_eq, meet_N', meet_P', meet_S', meet_Z', meet_B', meet_O', n_1, n_2, n_3, n_4, n_5, n_10, n_11] <;> rfl
    · simp (disch := omega) only [askP_no hk e', Option.bind_some, aI_n, aL_n, aQ_n, sA_n, sL_n, csA_n, i_0, i_1, i_2, i_3, i_4, i_5, i_6, i_7, i_8, i_9, i_10, i_11, i_12, i_13, i_16, i_20, i_21, i_22, i_31, i_99, i_100, i_256, i_1000, nI_eq, nI_leI, nI_ltI, nI_add, pk_mul, ↓reduceIte, nt_le, nf_le, nt_lt, nf_lt, nt_eq, nf_eq, meet_N', meet_P', meet_S', meet_Z', meet_B', meet_O', n_1, n_2, n_3, n_4, n_5, n_10, n_11] <;> rfl
  · have h6 := p3le n8
    have h0 := p3 n
    obtain ⟨z', w1, w2, w3, w4, w5, w6, w7, w8, w9, w10⟩ := weighS_5 (o := o) (bs := true) h t1
    obtain ⟨r', v1, v2⟩ := tell_n h7 (show k < 16 by omega) t2 hg n8
    have t2' : r'.2.1 0 k = nI n := by rw [v2.2.2.1 0 (by omega)]; exact t2.1
    refine ⟨(nI (wT n g true (3 ^ n - 1)), z'), (nI (wT n g true (3 ^ n - 1)), r'), ?_, ?_, rfl, v2.sim w2⟩
    · have w1' : fX1_weigh_5 o z q (nI 1) = some z' := w1
      unfold fX1_weightOfAll_5
      simp (disch := omega) only [find9_yes hk e, e, w1', w9, (w10 (3 ^ n - 1) (by omega)).2, Option.bind_some, aI_n, aL_n, aQ_n, sA_n, sL_n, csA_n, i_0, i_1, i_2, i_3, i_4, i_5, i_6, i_7, i_8, i_9, i_10, i_11, i_12, i_13, i_16, i_20, i_21, i_22, i_31, i_99, i_100, i_256, i_1000, nI_eq, nI_leI, nI_ltI, nI_add, pk_mul, ↓reduceIte, nt_le, nf_le, nt_lt, nf_lt, nt_eq, nf_eq, meet_N', meet_P', meet_S', meet_Z', meet_B', meet_O', n_1, n_2, n_3, n_4, n_5, n_10, n_11]
    · simp (disch := omega) only [askP_yes hk t2.1 n1 n8, v1, whole_n (v2.pw h7) (show k < 16 by omega) t2' n8, (v2.2.2.2 (3 ^ n - 1) (by omega)).2.2.1, Option.bind_some, aI_n, aL_n, aQ_n, sA_n, sL_n, csA_n, i_0, i_1, i_2, i_3, i_4, i_5, i_6, i_7, i_8, i_9, i_10, i_11, i_12, i_13, i_16, i_20, i_21, i_22, i_31, i_99, i_100, i_256, i_1000, nI_eq, nI_leI, nI_ltI, nI_add, pk_mul, ↓reduceIte, nt_le, nf_le, nt_lt, nf_lt, nt_eq, nf_eq, meet_N', meet_P', meet_S', meet_Z', meet_B', meet_O', n_1, n_2, n_3, n_4, n_5, n_10, n_11]
