theorem okT_n {z : CS} {q n : Nat} {kd wt : Int32} {g : Nat → Nat} (h : TkAt z q n kd wt g) : okT z (some q) = true := by
  obtain ⟨a, f, h1, h2⟩ := h
  show (dT z q).isSome = true
  rw [h1]
  rfl
theorem TkGe_id {z z' : CS} (h : z'.2.2.2.2.1 = z.2.2.2.2.1) : TkGe z z' := by
  refine ⟨fun q t e => ?_, fun q t e => ?_⟩
  · unfold dT cpl at e ⊢; rw [h]; exact e
  · unfold dB cpl at e ⊢; rw [h]; exact e
theorem cQ_k {z : CS} {k i : Nat} {x : Option Nat} : (cQ z k i x).2.2.1 k = va_up (z.2.2.1 k) i x := by
  show (if k = k then _ else _) = _
  rw [if_pos rfl]
theorem cQ_n {z : CS} {k i j : Nat} {x : Option Nat} (h : j ≠ k) : (cQ z k i x).2.2.1 j = z.2.2.1 j := by
  show (if j = k then _ else _) = _
  rw [if_neg h]
theorem vu_s {f : Nat → Option Nat} {i : Nat} {x : Option Nat} : va_up f i x i = x := by simp [va_up]
theorem vu_n {f : Nat → Option Nat} {i j : Nat} {x : Option Nat} (h : j ≠ i) : va_up f i x j = f j := by simp [va_up, h]
theorem dT_Q {z : CS} {k i q : Nat} {x : Option Nat} : dT (cQ z k i x) q = dT z q := rfl
theorem okT_Q {z : CS} {k i : Nat} {x y : Option Nat} : okT (cQ z k i x) y = okT z y := rfl
theorem St_move_ok : St_move Sim := by
  intro o z r a1 a2 h
  obtain ⟨h1, h2, h3, h4, h5⟩ := id h
  unfold fX9_move fX9_move_J17 fX10_move fX10_move_J14
  rcases ix a2 (n := 8) (by omega) with hx2 | ⟨k2, hk2, rfl⟩
  · refine ⟨(-2, z), (-2, r), ?_, ?_, rfl, h⟩
    · simp (disch := omega) only [isPl9_out hx2, Option.bind_some, aI_n, aL_n, aQ_n, sA_n, sL_n, csA_n, i_0, i_1, i_2, i_3, i_4, i_5, i_6, i_7, i_8, i_9, i_10, i_11, i_12, i_13, i_16, i_20, i_21, i_22, i_31, i_99, i_100, i_256, i_1000, nI_eq, nI_leI, nI_ltI, nI_add, pk_mul, ↓reduceIte, nt_le, nf_le, nt_lt, nf_lt, nt_eq, nf_eq, meet_N', meet_P', meet_S', meet_Z', meet_B', meet_O', n_1, n_2, n_3, n_4, n_5, n_10, n_11] <;> rfl
    · rcases ix a1 (n := 8) (by omega) with hx1 | ⟨k, hk, rfl⟩
      · simp (disch := omega) only [isPl10_out hx1, Option.bind_some, aI_n, aL_n, aQ_n, sA_n, sL_n, csA_n, i_0, i_1, i_2, i_3, i_4, i_5, i_6, i_7, i_8, i_9, i_10, i_11, i_12, i_13, i_16, i_20, i_21, i_22, i_31, i_99, i_100, i_256, i_1000, nI_eq, nI_leI, nI_ltI, nI_add, pk_mul, ↓reduceIte, nt_le, nf_le, nt_lt, nf_lt, nt_eq, nf_eq, meet_N', meet_P', meet_S', meet_Z', meet_B', meet_O', n_1, n_2, n_3, n_4, n_5, n_10, n_11]
      · simp (disch := omega) only [isPl10_in hk, isPl10_out hx2, Option.bind_some, aI_n, aL_n, aQ_n, sA_n, sL_n, csA_n, i_0, i_1, i_2, i_3, i_4, i_5, i_6, i_7, i_8, i_9, i_10, i_11, i_12, i_13, i_16, i_20, i_21, i_22, i_31, i_99, i_100, i_256, i_1000, nI_eq, nI_leI, nI_ltI, nI_add, pk_mul, ↓reduceIte, nt_le, nf_le, nt_lt, nf_lt, nt_eq, nf_eq, meet_N', meet_P', meet_S', meet_Z', meet_B', meet_O', n_1, n_2, n_3, n_4, n_5, n_10, n_11]
  · rcases plc h3 a1 with hx1 | ⟨k, hk, rfl, e, e'⟩ | ⟨k, q, n, kd, wt, g, b, hk, rfl, e, t1, t2, n1, n8, hg, d1, d2, d3, p2, p1⟩
    · refine ⟨(-2, z), (-2, r), ?_, ?_, rfl, h⟩
      · simp (disch := omega) only [isPl9_in hk2, find9_out hx1, Option.bind_some, aI_n, aL_n, aQ_n, sA_n, sL_n, csA_n, i_0, i_1, i_2, i_3, i_4, i_5, i_6, i_7, i_8, i_9, i_10, i_11, i_12, i_13, i_16, i_20, i_21, i_22, i_31, i_99, i_100, i_256, i_1000, nI_eq, nI_leI, nI_ltI, nI_add, pk_mul, ↓reduceIte, nt_le, nf_le, nt_lt, nf_lt, nt_eq, nf_eq, meet_N', meet_P', meet_S', meet_Z', meet_B', meet_O', n_1, n_2, n_3, n_4, n_5, n_10, n_11] <;> rfl
      · simp (disch := omega) only [isPl10_out hx1, Option.bind_some, aI_n, aL_n, aQ_n, sA_n, sL_n, csA_n, i_0, i_1, i_2, i_3, i_4, i_5, i_6, i_7, i_8, i_9, i_10, i_11, i_12, i_13, i_16, i_20, i_21, i_22, i_31, i_99, i_100, i_256, i_1000, nI_eq, nI_leI, nI_ltI, nI_add, pk_mul, ↓reduceIte, nt_le, nf_le, nt_lt, nf_lt, nt_eq, nf_eq, meet_N', meet_P', meet_S', meet_Z', meet_B', meet_O', n_1, n_2, n_3, n_4, n_5, n_10, n_11]
    · refine ⟨(-10, _), (-10, _), ?_, ?_, rfl, Sim_met h⟩
      · simp (disch := omega) only [isPl9_in hk2, find9_no hk e, Option.bind_some, aI_n, aL_n, aQ_n, sA_n, sL_n, csA_n, i_0, i_1, i_2, i_3, i_4, i_5, i_6, i_7, i_8, i_9, i_10, i_11, i_12, i_13, i_16, i_20, i_21, i_22, i_31, i_99, i_100, i_256, i_1000, nI_eq, nI_leI, nI_ltI, nI_add, pk_mul, ↓reduceIte, nt_le, nf_le, nt_lt, nf_lt, nt_eq, nf_eq, meet_N', meet_P', meet_S', meet_Z', meet_B', meet_O', n_1, n_2, n_3, n_4, n_5, n_10, n_11] <;> rfl
      · simp (disch := omega) only [isPl10_in hk2, isPl10_in hk, e', meet_N, Option.bind_some, aI_n, aL_n, aQ_n, sA_n, sL_n, csA_n, i_0, i_1, i_2, i_3, i_4, i_5, i_6, i_7, i_8, i_9, i_10, i_11, i_12, i_13, i_16, i_20, i_21, i_22, i_31, i_99, i_100, i_256, i_1000, nI_eq, nI_leI, nI_ltI, nI_add, pk_mul, ↓reduceIte, nt_le, nf_le, nt_lt, nf_lt, nt_eq, nf_eq, meet_N', meet_P', meet_S', meet_Z', meet_B', meet_O', n_1, n_2, n_3, n_4, n_5, n_10, n_11] <;> rfl
    · obtain ⟨r', g1, g2⟩ := take_n r (show k < 16 by omega) (show k2 < 16 by omega)
      have hs : Sim o (cQ z 1 k2 (some q)) r' := by
        refine Sim_pl h rfl rfl (cQ_n (by omega)) rfl g2.1 g2.2.1 g2.2.2.1 ?_ ?_
        · refine PlR_upd h3 (TkGe_id rfl) k2 (fun p _ hp => by rw [cQ_k, vu_n hp]) (fun p _ hp => by rw [Nat.zero_add]; exact g2.same hp) (fun _ => ⟨fun q => ?_, fun q' hq' => ?_⟩)
          · rw [cQ_k, vu_s] at q; cases q
          · rw [cQ_k, vu_s] at hq'
            obtain rfl := Option.some.inj hq'
            exact ⟨n, kd, wt, g, t1, by rw [Nat.zero_add]; exact g2.tk t2 n8⟩
        · exact PlR_all h4 (TkGe_id rfl) (fun p _ => by rw [cQ_n (by omega)]) (fun p hp => g2.same (by omega))
      refine ⟨(nI n, cQ z 1 k2 (some q)), (nI n, r'), ?_, ?_, rfl, hs⟩
      · have e4 : (cQ z 1 k2 (some q)).2.2.1 1 k = some q := by
          rw [cQ_k]
          by_cases hkk : k = k2
          · rw [hkk, vu_s]
          · rw [vu_n hkk, e]
        simp (disch := omega) only [isPl9_in hk2, find9_yes hk e, e, stQT_n hk2 (okT_n t1), e4, dT_Q, d1, Option.bind_some, aI_n, aL_n, aQ_n, sA_n, sL_n, csA_n, i_0, i_1, i_2, i_3, i_4, i_5, i_6, i_7, i_8, i_9, i_10, i_11, i_12, i_13, i_16, i_20, i_21, i_22, i_31, i_99, i_100, i_256, i_1000, nI_eq, nI_leI, nI_ltI, nI_add, pk_mul, ↓reduceIte, nt_le, nf_le, nt_lt, nf_lt, nt_eq, nf_eq, meet_N', meet_P', meet_S', meet_Z', meet_B', meet_O', n_1, n_2, n_3, n_4, n_5, n_10, n_11]
      · simp (disch := omega) only [isPl10_in hk2, isPl10_in hk, t2.1, g1, Option.bind_some, aI_n, aL_n, aQ_n, sA_n, sL_n, csA_n, i_0, i_1, i_2, i_3, i_4, i_5, i_6, i_7, i_8, i_9, i_10, i_11, i_12, i_13, i_16, i_20, i_21, i_22, i_31, i_99, i_100, i_256, i_1000, nI_eq, nI_leI, nI_ltI, nI_add, pk_mul, ↓reduceIte, nt_le, nf_le, nt_lt, nf_lt, nt_eq, nf_eq, meet_N', meet_P', meet_S', meet_Z', meet_B', meet_O', n_1, n_2, n_3, n_4, n_5, n_10, n_11]
        rw [g2.2.2.2.1 0 (by omega), pk_us, t2.1]
/-- all the places of one row brought to the other -/
theorem bring23_n {o : Nat} {z : CS} (hok : ∀ p, p < 8 → okT z (z.2.2.1 1 p) = true) : ∃ z', fX9_bring_2_3 o z = some z' ∧ z'.1 = z.1 ∧ z'.2.1 = z.2.1 ∧ z'.2.2.1 0 = z.2.2.1 0 ∧ z'.2.2.1 1 = z.2.2.1 1 ∧ (∀ p, p < 8 → z'.2.2.1 2 p = z.2.2.1 1 p) ∧ z'.2.2.2 = z.2.2.2 := by
  have hlp : ∃ e, lpN (fun u => fX9_bring_2_3_L2 o u.2 u.1) bigN (nI 0, z) = some e ∧ (e.1 = z.1 ∧ e.2.1 = z.2.1 ∧ e.2.2.1 0 = z.2.2.1 0 ∧ e.2.2.1 1 = z.2.2.1 1 ∧ (∀ p, p < 8 → e.2.2.1 2 p = z.2.2.1 1 p) ∧ e.2.2.2 = z.2.2.2) := by
    refine lp_count (fun i s => s.1 = nI i ∧ s.2.1 = z.1 ∧ s.2.2.1 = z.2.1 ∧ s.2.2.2.1 0 = z.2.2.1 0 ∧ s.2.2.2.1 1 = z.2.2.1 1 ∧ (∀ p, p < i → s.2.2.2.1 2 p = z.2.2.1 1 p) ∧ s.2.2.2.2 = z.2.2.2) 8 _ (bigN_gt (by omega)) (fun i s hi hs => ?_) (fun s hs => ?_) ⟨rfl, rfl, rfl, rfl, rfl, fun p hp => by omega, rfl⟩
    · obtain ⟨l, y⟩ := s
      obtain ⟨rfl, s1, s2, s3, s4, s5, s6⟩ := hs
      simp only at s1 s2 s3 s4 s5 s6
      refine ⟨(nI (i + 1), cQ y 2 i (z.2.2.1 1 i)), ?_, rfl, s1, s2, ?_, ?_, fun p hp => ?_, s6⟩
      · unfold fX9_bring_2_3_L2
        have hok' : okT y (z.2.2.1 1 i) = true := by
          have := hok i hi
          unfold okT dT cpl at this ⊢
          rw [s6]; exact this
        simp (disch := omega) only [s4, stQT_n hi hok', Option.bind_some, aI_n, aL_n, aQ_n, sA_n, sL_n, csA_n, i_0, i_1, i_2, i_3, i_4, i_5, i_6, i_7, i_8, i_9, i_10, i_11, i_12, i_13, i_16, i_20, i_21, i_22, i_31, i_99, i_100, i_256, i_1000, nI_eq, nI_leI, nI_ltI, nI_add, pk_mul, ↓reduceIte, nt_le, nf_le, nt_lt, nf_lt, nt_eq, nf_eq, meet_N', meet_P', meet_S', meet_Z', meet_B', meet_O', n_1, n_2, n_3, n_4, n_5, n_10, n_11]
      · exact (cQ_n (by omega)).trans s3
      · exact (cQ_n (by omega)).trans s4
      · show (cQ y 2 i _).2.2.1 2 p = _
        rw [cQ_k]
        by_cases hpi : p = i
        · rw [hpi, vu_s]
        · rw [vu_n hpi]; exact s5 p (by omega)
    · obtain ⟨l, y⟩ := s
      obtain ⟨rfl, s1⟩ := hs
      exact ⟨y, by unfold fX9_bring_2_3_L2; simp (disch := omega) only [Option.bind_some, aI_n, aL_n, aQ_n, sA_n, sL_n, csA_n, i_0, i_1, i_2, i_3, i_4, i_5, i_6, i_7, i_8, i_9, i_10, i_11, i_12, i_13, i_16, i_20, i_21, i_22, i_31, i_99, i_100, i_256, i_1000, nI_eq, nI_leI, nI_ltI, nI_add, pk_mul, ↓reduceIte, nt_le, nf_le, nt_lt, nf_lt, nt_eq, nf_eq, meet_N', meet_P', meet_S', meet_Z', meet_B', meet_O', n_1, n_2, n_3, n_4, n_5, n_10, n_11], s1⟩
  obtain ⟨e, g1, g2⟩ := hlp
  refine ⟨e, ?_, g2⟩
  unfold fX9_bring_2_3
  simp (disch := omega) only [g1, Option.bind_some, aI_n, aL_n, aQ_n, sA_n, sL_n, csA_n, i_0, i_1, i_2, i_3, i_4, i_5, i_6, i_7, i_8, i_9, i_10, i_11, i_12, i_13, i_16, i_20, i_21, i_22, i_31, i_99, i_100, i_256, i_1000, nI_eq, nI_leI, nI_ltI, nI_add, pk_mul, ↓reduceIte, nt_le, nf_le, nt_lt, nf_lt, nt_eq, nf_eq, meet_N', meet_P', meet_S', meet_Z', meet_B', meet_O', n_1, n_2, n_3, n_4, n_5, n_10, n_11]
theorem bring32_n {o : Nat} {z : CS} (hok : ∀ p, p < 8 → okT z (z.2.2.1 2 p) = true) : ∃ z', fX9_bring_3_2 o z = some z' ∧ z'.1 = z.1 ∧ z'.2.1 = z.2.1 ∧ z'.2.2.1 0 = z.2.2.1 0 ∧ z'.2.2.1 2 = z.2.2.1 2 ∧ (∀ p, p < 8 → z'.2.2.1 1 p = z.2.2.1 2 p) ∧ z'.2.2.2 = z.2.2.2 := by
  have hlp : ∃ e, lpN (fun u => fX9_bring_3_2_L2 o u.2 u.1) bigN (nI 0, z) = some e ∧ (e.1 = z.1 ∧ e.2.1 = z.2.1 ∧ e.2.2.1 0 = z.2.2.1 0 ∧ e.2.2.1 2 = z.2.2.1 2 ∧ (∀ p, p < 8 → e.2.2.1 1 p = z.2.2.1 2 p) ∧ e.2.2.2 = z.2.2.2) := by
    refine lp_count (fun i s => s.1 = nI i ∧ s.2.1 = z.1 ∧ s.2.2.1 = z.2.1 ∧ s.2.2.2.1 0 = z.2.2.1 0 ∧ s.2.2.2.1 2 = z.2.2.1 2 ∧ (∀ p, p < i → s.2.2.2.1 1 p = z.2.2.1 2 p) ∧ s.2.2.2.2 = z.2.2.2) 8 _ (bigN_gt (by omega)) (fun i s hi hs => ?_) (fun s hs => ?_) ⟨rfl, rfl, rfl, rfl, rfl, fun p hp => by omega, rfl⟩
    · obtain ⟨l, y⟩ := s
      obtain ⟨rfl, s1, s2, s3, s4, s5, s6⟩ := hs
      simp only at s1 s2 s3 s4 s5 s6
      refine ⟨(nI (i + 1), cQ y 1 i (z.2.2.1 2 i)), ?_, rfl, s1, s2, ?_, ?_, fun p hp => ?_, s6⟩
      · unfold fX9_bring_3_2_L2
        have hok' : okT y (z.2.2.1 2 i) = true := by
          have := hok i hi
          unfold okT dT cpl at this ⊢
          rw [s6]; exact this
        simp (disch := omega) only [s4, stQT_n hi hok', Option.bind_some, aI_n, aL_n, aQ_n, sA_n, sL_n, csA_n, i_0, i_1, i_2, i_3, i_4, i_5, i_6, i_7, i_8, i_9, i_10, i_11, i_12, i_13, i_16, i_20, i_21, i_22, i_31, i_99, i_100, i_256, i_1000, nI_eq, nI_leI, nI_ltI, nI_add, pk_mul, ↓reduceIte, nt_le, nf_le, nt_lt, nf_lt, nt_eq, nf_eq, meet_N', meet_P', meet_S', meet_Z', meet_B', meet_O', n_1, n_2, n_3, n_4, n_5, n_10, n_11]
      · exact (cQ_n (by omega)).trans s3
      · exact (cQ_n (by omega)).trans s4
      · show (cQ y 1 i _).2.2.1 1 p = _
        rw [cQ_k]
        by_cases hpi : p = i
        · rw [hpi, vu_s]
        · rw [vu_n hpi]; exact s5 p (by omega)
    · obtain ⟨l, y⟩ := s
      obtain ⟨rfl, s1⟩ := hs
      exact ⟨y, by unfold fX9_bring_3_2_L2; simp (disch := omega) only [Option.bind_some, aI_n, aL_n, aQ_n, sA_n, sL_n, csA_n, i_0, i_1, i_2, i_3, i_4, i_5, i_6, i_7, i_8, i_9, i_10, i_11, i_12, i_13, i_16, i_20, i_21, i_22, i_31, i_99, i_100, i_256, i_1000, nI_eq, nI_leI, nI_ltI, nI_add, pk_mul, ↓reduceIte, nt_le, nf_le, nt_lt, nf_lt, nt_eq, nf_eq, meet_N', meet_P', meet_S', meet_Z', meet_B', meet_O', n_1, n_2, n_3, n_4, n_5, n_10, n_11], s1⟩
  obtain ⟨e, g1, g2⟩ := hlp
  refine ⟨e, ?_, g2⟩
  unfold fX9_bring_3_2
  simp (disch := omega) only [g1, Option.bind_some, aI_n, aL_n, aQ_n, sA_n, sL_n, csA_n, i_0, i_1, i_2, i_3, i_4, i_5, i_6, i_7, i_8, i_9, i_10, i_11, i_12, i_13, i_16, i_20, i_21, i_22, i_31, i_99, i_100, i_256, i_1000, nI_eq, nI_leI, nI_ltI, nI_add, pk_mul, ↓reduceIte, nt_le, nf_le, nt_lt, nf_lt, nt_eq, nf_eq, meet_N', meet_P', meet_S', meet_Z', meet_B', meet_O', n_1, n_2, n_3, n_4, n_5, n_10, n_11]
theorem PlR_ok {z : CS} {r : RS} {k off : Nat} (h : PlR z r k off) : ∀ p, p < 8 → okT z (z.2.2.1 k p) = true := by
  intro p hp
  cases e : z.2.2.1 k p with
  | none => rfl
  | some q =>
    obtain ⟨n, kd, wt, g, t1, t2⟩ := (h p hp).2 q e
    exact okT_n t1
/-- a row of takes: the tasks at off .. are brought to off' .. -/
def TakesR (r r' : RS) (off off' : Nat) : Prop := r'.1 = r.1 ∧ r'.2.2 = r.2.2 ∧ (∀ k, 4 ≤ k → r'.2.1 k = r.2.1 k) ∧ (∀ p, p < 8 → RSame r r' (off + p)) ∧ ∀ p, p < 8 → r'.2.1 0 (off' + p) = r.2.1 0 (off + p) ∧ r'.2.1 1 (off' + p) = r.2.1 1 (off + p) ∧ r'.2.1 2 (off' + p) = r.2.1 2 (off + p) ∧ ∀ x, x < 256 → r'.2.1 3 (256 * (off' + p) + x) = r.2.1 3 (256 * (off + p) + x)
theorem takes_st {r y y' : RS} {off off' i : Nat} (hd : ∀ p p', p < 8 → p' < 8 → off + p ≠ off' + p') (hi : i < 8) (h : TakeR y y' (off + i) (off' + i)) (hs : y.1 = r.1 ∧ y.2.2 = r.2.2 ∧ (∀ k, 4 ≤ k → y.2.1 k = r.2.1 k) ∧ (∀ p, p < 8 → RSame r y (off + p)) ∧ ∀ p, p < i → y.2.1 0 (off' + p) = r.2.1 0 (off + p) ∧ y.2.1 1 (off' + p) = r.2.1 1 (off + p) ∧ y.2.1 2 (off' + p) = r.2.1 2 (off + p) ∧ ∀ x, x < 256 → y.2.1 3 (256 * (off' + p) + x) = r.2.1 3 (256 * (off + p) + x)) :
    y'.1 = r.1 ∧ y'.2.2 = r.2.2 ∧ (∀ k, 4 ≤ k → y'.2.1 k = r.2.1 k) ∧ (∀ p, p < 8 → RSame r y' (off + p)) ∧ ∀ p, p < i + 1 → y'.2.1 0 (off' + p) = r.2.1 0 (off + p) ∧ y'.2.1 1 (off' + p) = r.2.1 1 (off + p) ∧ y'.2.1 2 (off' + p) = r.2.1 2 (off + p) ∧ ∀ x, x < 256 → y'.2.1 3 (256 * (off' + p) + x) = r.2.1 3 (256 * (off + p) + x) := by
  obtain ⟨s1, s2, s3, s4, s5⟩ := hs
  obtain ⟨h1, h2, h3, h4, h5, h6⟩ := id h
  refine ⟨h1.trans s1, h2.trans s2, fun k hk => (h3 k hk).trans (s3 k hk), fun p hp => ?_, fun p hp => ?_⟩
  · obtain ⟨a1, a2, a3, a4⟩ := h.same (hd p i hp hi)
    obtain ⟨b1, b2, b3, b4⟩ := s4 p hp
    exact ⟨a1.trans b1, a2.trans b2, a3.trans b3, fun x hx => (a4 x hx).trans (b4 x hx)⟩
  · by_cases hpi : p = i
    · subst hpi
      obtain ⟨b1, b2, b3, b4⟩ := s4 p hi
      exact ⟨by rw [h4 0 (by omega), pk_us]; exact b1, by rw [h4 1 (by omega), pk_us]; exact b2, by rw [h4 2 (by omega), pk_us]; exact b3, fun x hx => (h5 x hx).trans (b4 x hx)⟩
    · obtain ⟨a1, a2, a3, a4⟩ := h.same (show off' + p ≠ off' + i by omega)
      obtain ⟨b1, b2, b3, b4⟩ := s5 p (by omega)
      exact ⟨a1.trans b1, a2.trans b2, a3.trans b3, fun x hx => (a4 x hx).trans (b4 x hx)⟩
theorem keep_lp (r : RS) : ∃ e, lpN (fun u => fX10_keep_L2 u.2 u.1) bigN (nI 0, r) = some e ∧ TakesR r e 0 8 := by
  refine lp_count (fun i s => s.1 = nI i ∧ (s.2.1 = r.1 ∧ s.2.2.2 = r.2.2 ∧ (∀ k, 4 ≤ k → s.2.2.1 k = r.2.1 k) ∧ (∀ p, p < 8 → RSame r s.2 (0 + p)) ∧ ∀ p, p < i → s.2.2.1 0 (8 + p) = r.2.1 0 (0 + p) ∧ s.2.2.1 1 (8 + p) = r.2.1 1 (0 + p) ∧ s.2.2.1 2 (8 + p) = r.2.1 2 (0 + p) ∧ ∀ x, x < 256 → s.2.2.1 3 (256 * (8 + p) + x) = r.2.1 3 (256 * (0 + p) + x))) 8 _ (bigN_gt (by omega)) (fun i s hi hs => ?_) (fun s hs => ?_) ⟨rfl, rfl, rfl, fun _ _ => rfl, fun _ _ => RSame.rf, fun p hp => by omega⟩
  · obtain ⟨l, y⟩ := s
    obtain ⟨rfl, hs⟩ := hs
    obtain ⟨y', g1, g2⟩ := take_n y (show 0 + i < 16 by omega) (show 8 + i < 16 by omega)
    refine ⟨(nI (i + 1), y'), ?_, rfl, takes_st (fun p p' _ _ => by omega) hi g2 hs⟩
    rw [Nat.zero_add] at g1
    unfold fX10_keep_L2
    simp (disch := omega) only [g1, Option.bind_some, aI_n, aL_n, aQ_n, sA_n, sL_n, csA_n, i_0, i_1, i_2, i_3, i_4, i_5, i_6, i_7, i_8, i_9, i_10, i_11, i_12, i_13, i_16, i_20, i_21, i_22, i_31, i_99, i_100, i_256, i_1000, nI_eq, nI_leI, nI_ltI, nI_add, pk_mul, ↓reduceIte, nt_le, nf_le, nt_lt, nf_lt, nt_eq, nf_eq, meet_N', meet_P', meet_S', meet_Z', meet_B', meet_O', n_1, n_2, n_3, n_4, n_5, n_10, n_11]
  · obtain ⟨l, y⟩ := s
    obtain ⟨rfl, hs⟩ := hs
    exact ⟨y, by unfold fX10_keep_L2; simp (disch := omega) only [Option.bind_some, aI_n, aL_n, aQ_n, sA_n, sL_n, csA_n, i_0, i_1, i_2, i_3, i_4, i_5, i_6, i_7, i_8, i_9, i_10, i_11, i_12, i_13, i_16, i_20, i_21, i_22, i_31, i_99, i_100, i_256, i_1000, nI_eq, nI_leI, nI_ltI, nI_add, pk_mul, ↓reduceIte, nt_le, nf_le, nt_lt, nf_lt, nt_eq, nf_eq, meet_N', meet_P', meet_S', meet_Z', meet_B', meet_O', n_1, n_2, n_3, n_4, n_5, n_10, n_11], hs⟩
theorem back_lp (r : RS) : ∃ e, lpN (fun u => fX10_back_L16 u.2 u.1) bigN (nI 0, r) = some e ∧ TakesR r e 8 0 := by
  refine lp_count (fun i s => s.1 = nI i ∧ (s.2.1 = r.1 ∧ s.2.2.2 = r.2.2 ∧ (∀ k, 4 ≤ k → s.2.2.1 k = r.2.1 k) ∧ (∀ p, p < 8 → RSame r s.2 (8 + p)) ∧ ∀ p, p < i → s.2.2.1 0 (0 + p) = r.2.1 0 (8 + p) ∧ s.2.2.1 1 (0 + p) = r.2.1 1 (8 + p) ∧ s.2.2.1 2 (0 + p) = r.2.1 2 (8 + p) ∧ ∀ x, x < 256 → s.2.2.1 3 (256 * (0 + p) + x) = r.2.1 3 (256 * (8 + p) + x))) 8 _ (bigN_gt (by omega)) (fun i s hi hs => ?_) (fun s hs => ?_) ⟨rfl, rfl, rfl, fun _ _ => rfl, fun _ _ => RSame.rf, fun p hp => by omega⟩
  · obtain ⟨l, y⟩ := s
    obtain ⟨rfl, hs⟩ := hs
    obtain ⟨y', g1, g2⟩ := take_n y (show 8 + i < 16 by omega) (show 0 + i < 16 by omega)
    refine ⟨(nI (i + 1), y'), ?_, rfl, takes_st (fun p p' _ _ => by omega) hi g2 hs⟩
    rw [Nat.zero_add] at g1
    unfold fX10_back_L16
    simp (disch := omega) only [g1, Option.bind_some, aI_n, aL_n, aQ_n, sA_n, sL_n, csA_n, i_0, i_1, i_2, i_3, i_4, i_5, i_6, i_7, i_8, i_9, i_10, i_11, i_12, i_13, i_16, i_20, i_21, i_22, i_31, i_99, i_100, i_256, i_1000, nI_eq, nI_leI, nI_ltI, nI_add, pk_mul, ↓reduceIte, nt_le, nf_le, nt_lt, nf_lt, nt_eq, nf_eq, meet_N', meet_P', meet_S', meet_Z', meet_B', meet_O', n_1, n_2, n_3, n_4, n_5, n_10, n_11]
  · obtain ⟨l, y⟩ := s
    obtain ⟨rfl, hs⟩ := hs
    exact ⟨y, by unfold fX10_back_L16; simp (disch := omega) only [Option.bind_some, aI_n, aL_n, aQ_n, sA_n, sL_n, csA_n, i_0, i_1, i_2, i_3, i_4, i_5, i_6, i_7, i_8, i_9, i_10, i_11, i_12, i_13, i_16, i_20, i_21, i_22, i_31, i_99, i_100, i_256, i_1000, nI_eq, nI_leI, nI_ltI, nI_add, pk_mul, ↓reduceIte, nt_le, nf_le, nt_lt, nf_lt, nt_eq, nf_eq, meet_N', meet_P', meet_S', meet_Z', meet_B', meet_O', n_1, n_2, n_3, n_4, n_5, n_10, n_11], hs⟩
theorem takes_pl {z z' : CS} {r r' : RS} {off off' k k' : Nat} (h : PlR z r k off) (ht : TakesR r r' off off') (hp : z'.2.2.2.2.1 = z.2.2.2.2.1) (hz : ∀ p, p < 8 → z'.2.2.1 k' p = z.2.2.1 k p) : PlR z' r' k' off' := by
  intro p hp8
  obtain ⟨a1, a2, a3, a4⟩ := ht.2.2.2.2 p hp8
  obtain ⟨b1, b2⟩ := h p hp8
  rw [hz p hp8]
  refine ⟨fun e => a1.trans (b1 e), fun q e => ?_⟩
  obtain ⟨n, kd, wt, g, t1, t2, t3, t4, t5⟩ := b2 q e
  have p2 := p2le (Tk_n t1).2.1
  exact ⟨n, kd, wt, g, (TkGe_id hp).at t1, a1.trans t2, a2.trans t3, by rw [a3]; exact t4, fun x hx => (a4 x (by omega)).trans (t5 x hx)⟩
theorem Sim_kept {o : Nat} {z : CS} {r : RS} (h : Sim o z r) {x : Int32} : Sim o (cI z 0 x) (rI r 0 x) := by
  obtain ⟨h1, h2, h3, h4, h5, h6, h7, h8, h9, h10, h11, h12, h13⟩ := h
  exact ⟨h1, h2, h3, h4, h5, ⟨h6.1, rfl, h6.2.2⟩, h7, h8, h9, h10, h11, h12, h13⟩
theorem St_keep_ok : St_keep Sim := by
  intro o z r h
  obtain ⟨h1, h2, h3, h4, h5⟩ := id h
  obtain ⟨z', y1, y2, y3, y4, y5, y6, y7⟩ := bring23_n (o := o) (PlR_ok h3)
  obtain ⟨r', w1, w2⟩ := keep_lp r
  have hs : Sim o z' r' := by
    refine Sim_pl h y2 y3 y4 y7 w2.1 w2.2.1 w2.2.2.1 ?_ ?_
    · exact PlR_all h3 (TkGe_id (by rw [y7])) (fun p _ => by rw [y5]) (fun p hp => w2.2.2.2.1 p hp)
    · exact takes_pl h3 w2 (by rw [y7]) y6
  have hs2 := Sim_kept hs (x := 1)
  refine ⟨(nI (ntk ((cI z' 0 1).2.2.1 1) 8), _), (nI (ntk ((cI z' 0 1).2.2.1 1) 8), _), ?_, ?_, rfl, hs2⟩
  · unfold fX9_keep
    rw [y1, Option.bind_some, howT_n]
    rfl
  · unfold fX10_keep
    rw [show (0 : Int32) = nI 0 from rfl, w1, Option.bind_some, tasks_n hs2.2.2.1]
    rfl
theorem St_back_ok : St_back Sim := by
  intro o z r h
  obtain ⟨h1, h2, h3, h4, h5, h6, h7⟩ := id h
  unfold fX9_back fX10_back
  by_cases hk : z.1 0 = 0
  · refine ⟨(-10, _), (-10, _), ?_, ?_, rfl, Sim_met h⟩
    · rw [if_pos hk, counted_n]; rfl
    · rw [if_pos (h6.2.1.symm.trans hk), meet_N]; rfl
  obtain ⟨z', y1, y2, y3, y4, y5, y6, y7⟩ := bring32_n (o := o) (PlR_ok h4)
  obtain ⟨r', w1, w2⟩ := back_lp r
  have hs : Sim o z' r' := by
    refine Sim_pl h y2 y3 y4 y7 w2.1 w2.2.1 w2.2.2.1 ?_ ?_
    · exact takes_pl h4 w2 (by rw [y7]) y6
    · exact PlR_all h4 (TkGe_id (by rw [y7])) (fun p _ => by rw [y5]) (fun p hp => w2.2.2.2.1 p hp)
  refine ⟨(nI (ntk (z'.2.2.1 1) 8), _), (nI (ntk (z'.2.2.1 1) 8), _), ?_, ?_, rfl, hs⟩
  · rw [if_neg hk, y1, Option.bind_some, howT_n]
    rfl
  · rw [if_neg (fun e => hk (h6.2.1.trans e)), show (0 : Int32) = nI 0 from rfl, w1, Option.bind_some, tasks_n hs.2.2.1]
    rfl
