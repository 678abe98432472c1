/-! ===== game, ask ===== -/
theorem cI_n {z : CS} {k j : Nat} {x : Int32} (h : j ≠ k) : (cI z k x).1 j = z.1 j := if_neg h
theorem cI_e {z : CS} {k : Nat} {x : Int32} : (cI z k x).1 k = x := if_pos rfl
theorem rI_n {r : RS} {k j : Nat} {x : Int32} (h : j ≠ k) : (rI r k x).1 j = r.1 j := if_neg h
theorem rI_e {r : RS} {k : Nat} {x : Int32} : (rI r k x).1 k = x := if_pos rfl
theorem dg_all {n i : Nat} (hi : i < n) : dg (3 ^ n - 1) i = 2 := by
  unfold dg
  have e1 : 3 ^ n = 3 ^ i * (3 * 3 ^ (n - 1 - i)) := by rw [← Nat.pow_succ', ← Nat.pow_add]; congr 1; omega
  have p1 := p3 i
  have p2 := p3 (n - 1 - i)
  have e2 : 3 ^ n - 1 = (3 ^ i - 1) + 3 ^ i * (3 * 3 ^ (n - 1 - i) - 1) := by
    rw [Nat.mul_sub, Nat.mul_one, ← e1]
    have : 3 ^ i ≤ 3 ^ n := Nat.pow_le_pow_right (by omega) (by omega)
    omega
  rw [e2, Nat.add_mul_div_left _ _ p1, Nat.div_eq_of_lt (by omega)]
  omega
/-- the class's cubes of the game have been weighed anew -/
theorem Sim_w29 {o : Nat} {z z' : CS} {r r' : RS} (h : Sim o z r) (h1 : ∀ k, k < 12 → z'.1 k = z.1 k) (h2 : ∀ k, k ≠ 17 → k ≠ 18 → z'.2.1 k = z.2.1 k) (h3 : z'.2.2.1 = z.2.2.1) (h4 : z'.2.2.2.1 0 = z.2.2.2.1 0) (h5 : z'.2.2.2.2 = z.2.2.2.2) (hr1 : ∀ k, k < 6 ∨ k = 7 → r'.1 k = r.1 k) (hr2 : ∀ k, (k < 6 ∨ k = 7 ∨ k = 11 ∨ (16 ≤ k ∧ k ≤ 19) ∨ k = 26) → r'.2.1 k = r.2.1 k) (hr3 : r'.2.2 6 = r.2.2 6) (hc : CuR z' 1 17 18 15 16) (hg : GaR z' r') : Sim o z' r' := by
  obtain ⟨g1, g2, g3, g4, g5, g6, g7, g8, g9, g10, g11, g12, g13⟩ := h
  have ge : TkGe z z' := TkGe_id (by rw [h5])
  have rs : ∀ p, RSame r r' p := fun p => ⟨by rw [hr2 0 (by omega)], by rw [hr2 1 (by omega)], by rw [hr2 2 (by omega)], fun x _ => by rw [hr2 3 (by omega)]⟩
  refine ⟨?_, ?_, ?_, ?_, ?_, ?_, ?_, ?_, ?_, ?_, ?_, hc, hg⟩
  · unfold PoolOK cpl cn at g1 ⊢
    rw [h5]; exact g1
  · exact ShR_ge g2 (pool_ge h5) (ShR_okd g2) (by rw [h3]) ⟨hr2 4 (by omega), hr2 5 (by omega), hr3⟩
  · exact PlR_all g3 ge (fun j _ => by rw [h3]) (fun p _ => rs _)
  · exact PlR_all g4 ge (fun j _ => by rw [h3]) (fun p _ => rs _)
  · unfold WtR at g5 ⊢
    rw [h1 1 (by omega), h2 0 (by omega) (by omega), hr1 1 (by omega), hr2 7 (by omega)]; exact g5
  · unfold ScR at g6 ⊢
    rw [h1 3 (by omega), h1 0 (by omega), h1 2 (by omega), hr1 2 (by omega), hr1 0 (by omega), hr1 3 (by omega), hr1 4 (by omega)]; exact g6
  · unfold PwR at g7 ⊢
    rw [hr2 11 (by omega)]; exact g7
  · unfold TrR at g8 ⊢
    rw [h1 6 (by omega), h2 3 (by omega) (by omega), h2 4 (by omega) (by omega), h2 5 (by omega) (by omega), hr1 5 (by omega), hr2 16 (by omega), hr2 17 (by omega), hr2 18 (by omega), hr2 19 (by omega)]; exact g8
  · unfold FoR at g9 ⊢
    rw [h1 9 (by omega), h2 13 (by omega) (by omega), hr1 7 (by omega), hr2 26 (by omega)]; exact g9
  · unfold LeR at g10 ⊢
    rw [h1 11 (by omega), h2 16 (by omega) (by omega)]; exact g10
  · exact CuR_ge g11 ge h4 (h1 5 (by omega)) (h1 4 (by omega)) (h2 1 (by omega) (by omega)) (h2 2 (by omega) (by omega))
theorem game42 {r0 r : RS} {n : Nat} {g : Nat → Nat} (hn : n ≤ 8) (h : CubR r0 r n g (3 ^ n)) (h9 : r.1 9 = nI (3 ^ n - 1)) : ∃ e, lpN (fun u => fX10_game_L42 u.2 u.1) bigN (nI 0, r) = some e ∧ (e.1 = r.1 ∧ e.2.2 = r.2.2 ∧ (∀ k, k ≠ 29 → k ≠ 30 → e.2.1 k = r.2.1 k) ∧ ∀ d, d < 3 ^ n → e.2.1 30 d = nI (hasT n g d) ∧ e.2.1 29 d = nI (wT n g false d)) := by
  have h6 := p3le hn
  have h3 := p3 n
  refine lp_count (fun i s => s.1 = nI i ∧ s.2.1 = r.1 ∧ s.2.2.2 = r.2.2 ∧ (∀ k, k ≠ 29 → k ≠ 30 → s.2.2.1 k = r.2.1 k) ∧ ∀ d, d < i → s.2.2.1 30 d = nI (hasT n g d) ∧ s.2.2.1 29 d = nI (wT n g false d)) (3 ^ n) _ (bigN_gt (by omega)) (fun i s hi hs => ?_) (fun s hs => ?_) ⟨rfl, rfl, rfl, fun _ _ _ => rfl, fun d hd => by omega⟩
  · obtain ⟨l, rr⟩ := s
    obtain ⟨rfl, s1, s2, s3, s4⟩ := hs
    simp only at s1 s2 s3 s4
    have a := h.2.2.2 i hi
    have x13 : rr.2.1 13 i = nI (wT n g false i) := by rw [s3 13 (by omega) (by omega)]; exact a.2.1
    have x12 : rr.2.1 12 i = nI (hasT n g i) := by rw [s3 12 (by omega) (by omega)]; exact a.1
    have x9 : rr.1 9 = nI (3 ^ n - 1) := by rw [s1]; exact h9
    refine ⟨(nI (i + 1), rA (rA rr 29 i (nI (wT n g false i))) 30 i (nI (hasT n g i))), ?_, rfl, s1, s2, fun k k1 k2 => ?_, fun d hd => ?_⟩
    · unfold fX10_game_L42
      simp (disch := omega) only [x9, x13, rA_n, x12, Option.bind_some, aI_n, aL_n, aQ_n, sA_n, sL_n, csA_n, i_0, i_1, i_2, i_3, i_4, i_5, i_6, i_7, i_8, i_9, i_10, i_11, i_12, i_13, i_16, i_20, i_21, i_22, i_31, i_99, i_100, i_256, i_1000, nI_eq, nI_leI, nI_ltI, nI_add, pk_mul, ↓reduceIte, nt_le, nf_le, nt_lt, nf_lt, nt_eq, nf_eq, meet_N', meet_P', meet_S', meet_Z', meet_B', meet_O', n_1, n_2, n_3, n_4, n_5, n_10, n_11]
    · show (rA (rA rr 29 i (nI (wT n g false i))) 30 i (nI (hasT n g i))).2.1 k = _
      rw [rA_n k2, rA_n k1]; exact s3 k k1 k2
    · show (rA (rA rr 29 i (nI (wT n g false i))) 30 i (nI (hasT n g i))).2.1 30 d = _ ∧ (rA (rA rr 29 i (nI (wT n g false i))) 30 i (nI (hasT n g i))).2.1 29 d = _
      rw [rA_e, rA_n (by omega), rA_n (show 29 ≠ 30 by omega), rA_e]
      by_cases e : d = i
      · subst e; rw [pk_us, pk_us]; exact ⟨rfl, rfl⟩
      · rw [pk_un e, pk_un e]; exact s4 d (by omega)
  · obtain ⟨l, rr⟩ := s
    obtain ⟨rfl, s1, s2, s3, s4⟩ := hs
    have x9 : rr.1 9 = nI (3 ^ n - 1) := by rw [show rr.1 = r.1 from s1]; exact h9
    exact ⟨rr, by unfold fX10_game_L42; simp (disch := omega) only [x9, Option.bind_some, aI_n, aL_n, aQ_n, sA_n, sL_n, csA_n, i_0, i_1, i_2, i_3, i_4, i_5, i_6, i_7, i_8, i_9, i_10, i_11, i_12, i_13, i_16, i_20, i_21, i_22, i_31, i_99, i_100, i_256, i_1000, nI_eq, nI_leI, nI_ltI, nI_add, pk_mul, ↓reduceIte, nt_le, nf_le, nt_lt, nf_lt, nt_eq, nf_eq, meet_N', meet_P', meet_S', meet_Z', meet_B', meet_O', n_1, n_2, n_3, n_4, n_5, n_10, n_11], s1, s2, s3, s4⟩
theorem St_game_ok : St_game Sim := by
  intro o z r a1 h
  obtain ⟨h1, h2, h3, h4, h5, h6, h7, h8, h9, h10, h11, h12, h13⟩ := id h
  unfold fX9_game fX10_game
  rcases plc h3 a1 with hx | ⟨k, hk, rfl, e, e'⟩ | ⟨k, q, n, kd, wt, g, b, hk, rfl, e, t1, t2, n1, n8, hg, d1, d2, d3, p2, p1⟩
  · refine ⟨(-2, z), (-2, r), ?_, ?_, rfl, h⟩
    · simp (disch := omega) only [find9_out hx, Option.bind_some, aI_n, aL_n, aQ_n, sA_n, sL_n, csA_n, i_0, i_1, i_2, i_3, i_4, i_5, i_6, i_7, i_8, i_9, i_10, i_11, i_12, i_13, i_16, i_20, i_21, i_22, i_31, i_99, i_100, i_256, i_1000, nI_eq, nI_leI, nI_ltI, nI_add, pk_mul, ↓reduceIte, nt_le, nf_le, nt_lt, nf_lt, nt_eq, nf_eq, meet_N', meet_P', meet_S', meet_Z', meet_B', meet_O', n_1, n_2, n_3, n_4, n_5, n_10, n_11]
    · simp (disch := omega) only [askP_out hx, Option.bind_some, aI_n, aL_n, aQ_n, sA_n, sL_n, csA_n, i_0, i_1, i_2, i_3, i_4, i_5, i_6, i_7, i_8, i_9, i_10, i_11, i_12, i_13, i_16, i_20, i_21, i_22, i_31, i_99, i_100, i_256, i_1000, nI_eq, nI_leI, nI_ltI, nI_add, pk_mul, ↓reduceIte, nt_le, nf_le, nt_lt, nf_lt, nt_eq, nf_eq, meet_N', meet_P', meet_S', meet_Z', meet_B', meet_O', n_1, n_2, n_3, n_4, n_5, n_10, n_11]
  · refine ⟨(-10, _), (-10, _), ?_, ?_, rfl, Sim_met h⟩
    · simp (disch := omega) only [find9_no hk e, Option.bind_some, aI_n, aL_n, aQ_n, sA_n, sL_n, csA_n, i_0, i_1, i_2, i_3, i_4, i_5, i_6, i_7, i_8, i_9, i_10, i_11, i_12, i_13, i_16, i_20, i_21, i_22, i_31, i_99, i_100, i_256, i_1000, nI_eq, nI_leI, nI_ltI, nI_add, pk_mul, ↓reduceIte, nt_le, nf_le, nt_lt, nf_lt, nt_eq, nf_eq, meet_N', meet_P', meet_S', meet_Z', meet_B', meet_O', n_1, n_2, n_3, n_4, n_5, n_10, n_11] <;> rfl
    · simp (disch := omega) only [askP_no hk e', Option.bind_some, aI_n, aL_n, aQ_n, sA_n, sL_n, csA_n, i_0, i_1, i_2, i_3, i_4, i_5, i_6, i_7, i_8, i_9, i_10, i_11, i_12, i_13, i_16, i_20, i_21, i_22, i_31, i_99, i_100, i_256, i_1000, nI_eq, nI_leI, nI_ltI, nI_add, pk_mul, ↓reduceIte, nt_le, nf_le, nt_lt, nf_lt, nt_eq, nf_eq, meet_N', meet_P', meet_S', meet_Z', meet_B', meet_O', n_1, n_2, n_3, n_4, n_5, n_10, n_11] <;> rfl
  · have h6' := p3le n8
    have h0 := p3 n
    obtain ⟨z', w1, w2, w3, w4, w5, w6, w7, w8, w9, w10⟩ := weigh_29 (o := o) (bs := false) h12 t1
    obtain ⟨r', v1, v2⟩ := tell_n h7 (show k < 16 by omega) t2 hg n8
    have t2' : r'.2.1 0 k = nI n := by rw [v2.2.2.1 0 (by omega)]; exact t2.1
    have v2' : CubR (rI (rI r 8 (nI n)) 9 (nI (3 ^ n - 1))) (rI (rI r' 8 (nI n)) 9 (nI (3 ^ n - 1))) n g (3 ^ n) := by
      refine ⟨?_, v2.2.1, v2.2.2.1, v2.2.2.2⟩
      show upd (upd r'.1 8 (nI n)) 9 (nI (3 ^ n - 1)) = upd (upd r.1 8 (nI n)) 9 (nI (3 ^ n - 1))
      rw [v2.1]
    obtain ⟨r2, y1, y2, y3, y4, y5⟩ := game42 n8 v2' rI_e
    have r29 : r2.1 9 = nI (3 ^ n - 1) := by rw [y2, rI_e]
    have r28 : r2.1 8 = nI n := by rw [y2, rI_n (by omega), rI_e]
    have dz : dT z' q = some (kd, nI n, wt, some b) := by
      have : dT z' q = dT z q := by unfold dT cpl; rw [w6]
      rw [this]; exact d1
    have tz : TkAt z' q n kd wt g := TkAt_pool w6 t1
    refine ⟨(nI (wT n g false (3 ^ n - 1)), cI (cI (cI z' 12 (nI n)) 13 (nI 0)) 14 (nI (3 ^ n - 1))), (nI (wT n g false (3 ^ n - 1)), r2), ?_, ?_, rfl, ?_⟩
    · have w1' : fX1_weigh_29 o z q (nI 0) = some z' := w1
      have x16 : (cI (cI z' 12 (nI n)) 13 (nI 0)).1 16 = nI (3 ^ n - 1) := by
        rw [cI_n (by omega), cI_n (by omega)]; exact w9
      have x16' : (cI (cI (cI z' 12 (nI n)) 13 (nI 0)) 14 (nI (3 ^ n - 1))).1 16 = nI (3 ^ n - 1) := by
        rw [cI_n (by omega), cI_n (by omega), cI_n (by omega)]; exact w9
      have x18 : (cI (cI (cI z' 12 (nI n)) 13 (nI 0)) 14 (nI (3 ^ n - 1))).2.1 18 (3 ^ n - 1) = nI (wT n g false (3 ^ n - 1)) := (w10 _ (by omega)).2
      unfold fX3_begin fX1_weightOfAll_29
      simp (disch := omega) only [find9_yes hk e, e, w1', dz, x16, x16', x18, Option.bind_some, aI_n, aL_n, aQ_n, sA_n, sL_n, csA_n, i_0, i_1, i_2, i_3, i_4, i_5, i_6, i_7, i_8, i_9, i_10, i_11, i_12, i_13, i_16, i_20, i_21, i_22, i_31, i_99, i_100, i_256, i_1000, nI_eq, nI_leI, nI_ltI, nI_add, pk_mul, ↓reduceIte, nt_le, nf_le, nt_lt, nf_lt, nt_eq, nf_eq, meet_N', meet_P', meet_S', meet_Z', meet_B', meet_O', n_1, n_2, n_3, n_4, n_5, n_10, n_11]
    · have y1' : lpN (fun u => fX10_game_L42 u.2 u.1) bigN (nI 0, rI (rI r' 8 (nI n)) 9 (nI (3 ^ n - 1))) = some r2 := y1
      have hw : fX10_whole (rI r' 8 (nI n)) (nI k) = some (nI (3 ^ n - 1)) := whole_n (v2.pw h7) (show k < 16 by omega) t2' n8
      simp (disch := omega) only [askP_yes hk t2.1 n1 n8, v1, t2', hw, y1', r29, (y5 (3 ^ n - 1) (by omega)).2, Option.bind_some, aI_n, aL_n, aQ_n, sA_n, sL_n, csA_n, i_0, i_1, i_2, i_3, i_4, i_5, i_6, i_7, i_8, i_9, i_10, i_11, i_12, i_13, i_16, i_20, i_21, i_22, i_31, i_99, i_100, i_256, i_1000, nI_eq, nI_leI, nI_ltI, nI_add, pk_mul, ↓reduceIte, nt_le, nf_le, nt_lt, nf_lt, nt_eq, nf_eq, meet_N', meet_P', meet_S', meet_Z', meet_B', meet_O', n_1, n_2, n_3, n_4, n_5, n_10, n_11]
    · have fz : ∀ k, k ≠ 12 → k ≠ 13 → k ≠ 14 → (cI (cI (cI z' 12 (nI n)) 13 (nI 0)) 14 (nI (3 ^ n - 1))).1 k = z'.1 k := fun k k1 k2 k3 => by
        rw [cI_n k3, cI_n k2, cI_n k1]
      have fr : ∀ k, k ≠ 8 → k ≠ 9 → r2.1 k = r.1 k := fun k k1 k2 => by
        rw [y2]
        rw [rI_n k2, rI_n k1, v2.1]
      have fa : ∀ k, k < 12 ∨ (16 ≤ k ∧ k ≠ 29 ∧ k ≠ 30) → r2.2.1 k = r.2.1 k := fun k hk => by
        rw [y4 k (by omega) (by omega)]
        exact v2.2.2.1 k (by omega)
      refine Sim_w29 h (fun k hk => by rw [fz k (by omega) (by omega) (by omega), w2 k (by omega) (by omega)]) w3 w4 (w5 0 (by omega)) w6 (fun k hk => fr k (by omega) (by omega)) (fun k hk => fa k (by omega)) ?_ ?_ ?_
      · rw [y3]
        show r'.2.2 6 = _
        rw [v2.2.1]
      · intro q' hq'
        have : some q = some q' := w7.symm.trans hq'
        obtain rfl := Option.some.inj this
        exact ⟨n, kd, wt, g, false, tz, (fz 16 (by omega) (by omega) (by omega)).trans w9, (fz 15 (by omega) (by omega) (by omega)).trans w8, w10⟩
      · refine Or.inr ⟨q, n, kd, wt, g, 3 ^ n - 1, 0, w7, tz, (fz 15 (by omega) (by omega) (by omega)).trans w8, ?_, r28, by omega, Nat.two_pow_pos n, ?_, r29, ?_, fun i hi => ?_, y5⟩
        · rw [cI_n (by omega), cI_n (by omega), cI_e]
        · rw [cI_e]
        · rw [cI_n (by omega), cI_e]
        · rw [dg_all hi]
          simp
theorem St_ask_ok : St_ask Sim := by
  intro o z r a1 h
  obtain ⟨h1, h2, h3, h4, h5, h6, h7, h8, h9, h10, h11, h12, h13⟩ := id h
  unfold fX9_ask fX3_answer fX3_answer_J24 fX10_ask fX10_ask_J32
  rcases h13 with ⟨g1, g2⟩ | ⟨q, n, kd, wt, g, c, A, g1, t1, g3, g4, g5, hc, hA, g6, g7, g8, g9, g10⟩
  · refine ⟨(-2, z), (-2, r), ?_, ?_, rfl, h⟩
    · by_cases h0 : a1 < nI 0
      · simp (disch := omega) only [h0, Option.bind_some, aI_n, aL_n, aQ_n, sA_n, sL_n, csA_n, i_0, i_1, i_2, i_3, i_4, i_5, i_6, i_7, i_8, i_9, i_10, i_11, i_12, i_13, i_16, i_20, i_21, i_22, i_31, i_99, i_100, i_256, i_1000, nI_eq, nI_leI, nI_ltI, nI_add, pk_mul, ↓reduceIte, nt_le, nf_le, nt_lt, nf_lt, nt_eq, nf_eq, meet_N', meet_P', meet_S', meet_Z', meet_B', meet_O', n_1, n_2, n_3, n_4, n_5, n_10, n_11]
      · have : nI 0 ≤ a1 := by
          rcases pk_ix a1 (n := 0) (by omega) with w | w | ⟨j, w, _⟩
          · exact absurd w h0
          · exact w
          · omega
        simp (disch := omega) only [h0, g1, this, Option.bind_some, aI_n, aL_n, aQ_n, sA_n, sL_n, csA_n, i_0, i_1, i_2, i_3, i_4, i_5, i_6, i_7, i_8, i_9, i_10, i_11, i_12, i_13, i_16, i_20, i_21, i_22, i_31, i_99, i_100, i_256, i_1000, nI_eq, nI_leI, nI_ltI, nI_add, pk_mul, ↓reduceIte, nt_le, nf_le, nt_lt, nf_lt, nt_eq, nf_eq, meet_N', meet_P', meet_S', meet_Z', meet_B', meet_O', n_1, n_2, n_3, n_4, n_5, n_10, n_11]
    · simp (disch := omega) only [g2, Option.bind_some, aI_n, aL_n, aQ_n, sA_n, sL_n, csA_n, i_0, i_1, i_2, i_3, i_4, i_5, i_6, i_7, i_8, i_9, i_10, i_11, i_12, i_13, i_16, i_20, i_21, i_22, i_31, i_99, i_100, i_256, i_1000, nI_eq, nI_leI, nI_ltI, nI_add, pk_mul, ↓reduceIte, nt_le, nf_le, nt_lt, nf_lt, nt_eq, nf_eq, meet_N', meet_P', meet_S', meet_Z', meet_B', meet_O', n_1, n_2, n_3, n_4, n_5, n_10, n_11]
  · obtain ⟨n1, n8, hg⟩ := Tk_n t1
    have h6' := p3le n8
    have p2 := p2le n8
    rcases ix a1 (n := n) (by omega) with hx | ⟨i, hi, rfl⟩
    · refine ⟨(-2, z), (-2, r), ?_, ?_, rfl, h⟩
      · by_cases h0 : a1 < nI 0
        · simp (disch := omega) only [h0, Option.bind_some, aI_n, aL_n, aQ_n, sA_n, sL_n, csA_n, i_0, i_1, i_2, i_3, i_4, i_5, i_6, i_7, i_8, i_9, i_10, i_11, i_12, i_13, i_16, i_20, i_21, i_22, i_31, i_99, i_100, i_256, i_1000, nI_eq, nI_leI, nI_ltI, nI_add, pk_mul, ↓reduceIte, nt_le, nf_le, nt_lt, nf_lt, nt_eq, nf_eq, meet_N', meet_P', meet_S', meet_Z', meet_B', meet_O', n_1, n_2, n_3, n_4, n_5, n_10, n_11]
        · simp (disch := omega) only [h0, g4, hx.resolve_left h0, Option.bind_some, aI_n, aL_n, aQ_n, sA_n, sL_n, csA_n, i_0, i_1, i_2, i_3, i_4, i_5, i_6, i_7, i_8, i_9, i_10, i_11, i_12, i_13, i_16, i_20, i_21, i_22, i_31, i_99, i_100, i_256, i_1000, nI_eq, nI_leI, nI_ltI, nI_add, pk_mul, ↓reduceIte, nt_le, nf_le, nt_lt, nf_lt, nt_eq, nf_eq, meet_N', meet_P', meet_S', meet_Z', meet_B', meet_O', n_1, n_2, n_3, n_4, n_5, n_10, n_11]
      · by_cases h0 : a1 < nI 0
        · simp (disch := omega) only [g5, h0, Option.bind_some, aI_n, aL_n, aQ_n, sA_n, sL_n, csA_n, i_0, i_1, i_2, i_3, i_4, i_5, i_6, i_7, i_8, i_9, i_10, i_11, i_12, i_13, i_16, i_20, i_21, i_22, i_31, i_99, i_100, i_256, i_1000, nI_eq, nI_leI, nI_ltI, nI_add, pk_mul, ↓reduceIte, nt_le, nf_le, nt_lt, nf_lt, nt_eq, nf_eq, meet_N', meet_P', meet_S', meet_Z', meet_B', meet_O', n_1, n_2, n_3, n_4, n_5, n_10, n_11]
        · simp (disch := omega) only [g5, h0, hx.resolve_left h0, Option.bind_some, aI_n, aL_n, aQ_n, sA_n, sL_n, csA_n, i_0, i_1, i_2, i_3, i_4, i_5, i_6, i_7, i_8, i_9, i_10, i_11, i_12, i_13, i_16, i_20, i_21, i_22, i_31, i_99, i_100, i_256, i_1000, nI_eq, nI_leI, nI_ltI, nI_add, pk_mul, ↓reduceIte, nt_le, nf_le, nt_lt, nf_lt, nt_eq, nf_eq, meet_N', meet_P', meet_S', meet_Z', meet_B', meet_O', n_1, n_2, n_3, n_4, n_5, n_10, n_11]
    · have hdl := dg_lt c i
      have hb : A / 2 ^ i % 2 = 1 ↔ dg c i ≠ 2 := by
        rw [← g9 i hi, Nat.testBit_eq_decide_div_mod_eq]
        exact ⟨fun w => decide_eq_true w, fun w => of_decide_eq_true w⟩
      have hA31 : A < 2 ^ 31 := by omega
      have hml : A / 2 ^ i % 2 < 2 := Nat.mod_lt _ (by omega)
      by_cases h2' : dg c i = 2
      · have hb0 : A / 2 ^ i % 2 = 0 := by
          have : ¬ A / 2 ^ i % 2 = 1 := fun w => hb.mp w h2'
          omega
        obtain ⟨n', kd', wt', g', bs, c1, c2, c3, c4⟩ := h12 q g1
        obtain ⟨rfl, rfl⟩ := Tk_uniq t1 c1
        have hbs : bs = false := by
          rw [g3] at c3
          cases bs
          · rfl
          · exact absurd c3 (by decide)
        subst hbs
        have ac := c4 c hc
        have rc := g10 c hc
        have l3 := hasT_le n g c
        by_cases hs : hasT n g c = 3
        · have hge := dg_ge h2'
          have h3' := p3 i
          have h4' := p3le (show i ≤ 8 by omega)
          have s1 := dg_sub (a := 1) h2' (by omega)
          have s2 := dg_sub (a := 2) h2' (by omega)
          rw [Nat.one_mul] at s1
          have e0 : c - 3 ^ i - 3 ^ i = c - 2 * 3 ^ i := by omega
          have b1 := wT_b n8 g false (c - 3 ^ i)
          have b2 := wT_b n8 g false (c - 2 * 3 ^ i)
          have z1 := (c4 (c - 3 ^ i) (by omega)).2
          have z2 := (c4 (c - 2 * 3 ^ i) (by omega)).2
          have r1 := (g10 (c - 3 ^ i) (by omega)).2
          have r2 := (g10 (c - 2 * 3 ^ i) (by omega)).2
          have hAl : A ||| 2 ^ i < 2 ^ n := Nat.or_lt_two_pow hA (Nat.pow_lt_pow_right (by omega) hi)
          have fin : ∀ c' s : Nat, c' < 3 ^ n → s ≤ 1 → (∀ j, dg c' j = if j = i then s else dg c j) → Sim o (cI (cI z 14 (nI c')) 13 (nI (A ||| 2 ^ i))) (rI r 9 (nI c')) := by
            intro c' s hc' hs1 hd
            have fz : ∀ k, k ≠ 13 → k ≠ 14 → (cI (cI z 14 (nI c')) 13 (nI (A ||| 2 ^ i))).1 k = z.1 k := fun k k1 k2 => by
              rw [cI_n k1, cI_n k2]
            have fr : ∀ k, k ≠ 9 → (rI r 9 (nI c')).1 k = r.1 k := fun k k1 => by
              rw [rI_n k1]
            refine Sim_w29 h (fun k hk => fz k (by omega) (by omega)) (fun _ _ _ => rfl) rfl rfl rfl (fun k hk => fr k (by omega)) (fun _ _ => rfl) rfl ?_ ?_
            · exact CuR_ge h12 TkGe.rf rfl (fz 16 (by omega) (by omega)) (fz 15 (by omega) (by omega)) rfl rfl
            · refine Or.inr ⟨q, n, kd, wt, g, c', A ||| 2 ^ i, g1, t1, (fz 15 (by omega) (by omega)).trans g3, (fz 12 (by omega) (by omega)).trans g4, (fr 8 (by omega)).trans g5, hc', hAl, ?_, ?_, ?_, fun j hj => ?_, g10⟩
              · rw [cI_n (by omega), cI_e]
              · rw [rI_e]
              · rw [cI_e]
              · rw [hd j, Nat.testBit_or, Nat.testBit_two_pow]
                by_cases e : j = i
                · subst e
                  rw [if_pos rfl]
                  simp
                  omega
                · rw [if_neg e, ← g9 j hj]
                  simp [show ¬ i = j from fun w => e w.symm]
          have x13 : ∀ c' : Nat, (cI z 14 (nI c')).1 13 = nI A := fun c' => by
            rw [cI_n (by omega)]; exact g8
          have x14 : ∀ c' : Nat, (cI (cI z 14 (nI c')) 13 (nI (A ||| 2 ^ i))).1 14 = nI c' := fun c' => by
            rw [cI_n (by omega), cI_e]
          have y9 : ∀ c' : Nat, (rI r 9 (nI c')).1 9 = nI c' := fun c' => by
            rw [rI_e]
          have z18 : ∀ c' : Nat, (cI (cI z 14 (nI c')) 13 (nI (A ||| 2 ^ i))).2.1 = z.2.1 := fun _ => rfl
          have r29 : ∀ c' : Nat, (rI r 9 (nI c')).2.1 = r.2.1 := fun _ => rfl
          by_cases q : wT n g false (c - 3 ^ i) ≤ wT n g false (c - 2 * 3 ^ i)
          · refine ⟨(nI (10 * wT n g false (c - 2 * 3 ^ i) + 0), _), (nI (10 * wT n g false (c - 2 * 3 ^ i) + 0), _), ?_, ?_, rfl, fin (c - 2 * 3 ^ i) 0 (by omega) (by omega) s2⟩
            · unfold fX1_isSettled_29 fX3_answer_J87 fX3_answer_J101
              simp (disch := omega) only [g4, g8, bitN hA31 (show i < 32 by omega), hb0, g6, ac.1, hs, pow_n (show i ≤ 8 by omega), pk_sub, e0, z1, z2, x13, shl1' i (by omega), nI_or, x14, z18, Option.bind_some, aI_n, aL_n, aQ_n, sA_n, sL_n, csA_n, i_0, i_1, i_2, i_3, i_4, i_5, i_6, i_7, i_8, i_9, i_10, i_11, i_12, i_13, i_16, i_20, i_21, i_22, i_31, i_99, i_100, i_256, i_1000, nI_eq, nI_leI, nI_ltI, nI_add, pk_mul, ↓reduceIte, nt_le, nf_le, nt_lt, nf_lt, nt_eq, nf_eq, meet_N', meet_P', meet_S', meet_Z', meet_B', meet_O', n_1, n_2, n_3, n_4, n_5, n_10, n_11] <;> rfl
            · unfold fX10_ask_J97 fX10_ask_J111
              simp (disch := omega) only [g5, g7, digit_n h7 (show c < 6561 by omega) (show i ≤ 8 by omega), h2', rc.1, hs, h7 i (by omega), pk_sub, r1, r2, y9, r29, Option.bind_some, aI_n, aL_n, aQ_n, sA_n, sL_n, csA_n, i_0, i_1, i_2, i_3, i_4, i_5, i_6, i_7, i_8, i_9, i_10, i_11, i_12, i_13, i_16, i_20, i_21, i_22, i_31, i_99, i_100, i_256, i_1000, nI_eq, nI_leI, nI_ltI, nI_add, pk_mul, ↓reduceIte, nt_le, nf_le, nt_lt, nf_lt, nt_eq, nf_eq, meet_N', meet_P', meet_S', meet_Z', meet_B', meet_O', n_1, n_2, n_3, n_4, n_5, n_10, n_11] <;> rfl
          · refine ⟨(nI (10 * wT n g false (c - 3 ^ i) + 1), _), (nI (10 * wT n g false (c - 3 ^ i) + 1), _), ?_, ?_, rfl, fin (c - 3 ^ i) 1 (by omega) (by omega) s1⟩
            · unfold fX1_isSettled_29 fX3_answer_J87 fX3_answer_J101
              simp (disch := omega) only [g4, g8, bitN hA31 (show i < 32 by omega), hb0, g6, ac.1, hs, pow_n (show i ≤ 8 by omega), pk_sub, e0, z1, z2, x13, shl1' i (by omega), nI_or, x14, z18, Option.bind_some, aI_n, aL_n, aQ_n, sA_n, sL_n, csA_n, i_0, i_1, i_2, i_3, i_4, i_5, i_6, i_7, i_8, i_9, i_10, i_11, i_12, i_13, i_16, i_20, i_21, i_22, i_31, i_99, i_100, i_256, i_1000, nI_eq, nI_leI, nI_ltI, nI_add, pk_mul, ↓reduceIte, nt_le, nf_le, nt_lt, nf_lt, nt_eq, nf_eq, meet_N', meet_P', meet_S', meet_Z', meet_B', meet_O', n_1, n_2, n_3, n_4, n_5, n_10, n_11] <;> rfl
            · unfold fX10_ask_J97 fX10_ask_J111
              simp (disch := omega) only [g5, g7, digit_n h7 (show c < 6561 by omega) (show i ≤ 8 by omega), h2', rc.1, hs, h7 i (by omega), pk_sub, r1, r2, y9, r29, Option.bind_some, aI_n, aL_n, aQ_n, sA_n, sL_n, csA_n, i_0, i_1, i_2, i_3, i_4, i_5, i_6, i_7, i_8, i_9, i_10, i_11, i_12, i_13, i_16, i_20, i_21, i_22, i_31, i_99, i_100, i_256, i_1000, nI_eq, nI_leI, nI_ltI, nI_add, pk_mul, ↓reduceIte, nt_le, nf_le, nt_lt, nf_lt, nt_eq, nf_eq, meet_N', meet_P', meet_S', meet_Z', meet_B', meet_O', n_1, n_2, n_3, n_4, n_5, n_10, n_11] <;> rfl
        · refine ⟨(-3, z), (-3, r), ?_, ?_, rfl, h⟩
          · unfold fX1_isSettled_29
            simp (disch := omega) only [g4, g8, bitN hA31 (show i < 32 by omega), hb0, g6, ac.1, Option.bind_some, aI_n, aL_n, aQ_n, sA_n, sL_n, csA_n, i_0, i_1, i_2, i_3, i_4, i_5, i_6, i_7, i_8, i_9, i_10, i_11, i_12, i_13, i_16, i_20, i_21, i_22, i_31, i_99, i_100, i_256, i_1000, nI_eq, nI_leI, nI_ltI, nI_add, pk_mul, ↓reduceIte, nt_le, nf_le, nt_lt, nf_lt, nt_eq, nf_eq, meet_N', meet_P', meet_S', meet_Z', meet_B', meet_O', n_1, n_2, n_3, n_4, n_5, n_10, n_11]
          · simp (disch := omega) only [g5, g7, digit_n h7 (show c < 6561 by omega) (show i ≤ 8 by omega), h2', rc.1, Option.bind_some, aI_n, aL_n, aQ_n, sA_n, sL_n, csA_n, i_0, i_1, i_2, i_3, i_4, i_5, i_6, i_7, i_8, i_9, i_10, i_11, i_12, i_13, i_16, i_20, i_21, i_22, i_31, i_99, i_100, i_256, i_1000, nI_eq, nI_leI, nI_ltI, nI_add, pk_mul, ↓reduceIte, nt_le, nf_le, nt_lt, nf_lt, nt_eq, nf_eq, meet_N', meet_P', meet_S', meet_Z', meet_B', meet_O', n_1, n_2, n_3, n_4, n_5, n_10, n_11]
      · have hb1 := hb.mpr h2'
        refine ⟨(-2, z), (-2, r), ?_, ?_, rfl, h⟩
        · simp (disch := omega) only [g4, g8, bitN hA31 (show i < 32 by omega), hb1, Option.bind_some, aI_n, aL_n, aQ_n, sA_n, sL_n, csA_n, i_0, i_1, i_2, i_3, i_4, i_5, i_6, i_7, i_8, i_9, i_10, i_11, i_12, i_13, i_16, i_20, i_21, i_22, i_31, i_99, i_100, i_256, i_1000, nI_eq, nI_leI, nI_ltI, nI_add, pk_mul, ↓reduceIte, nt_le, nf_le, nt_lt, nf_lt, nt_eq, nf_eq, meet_N', meet_P', meet_S', meet_Z', meet_B', meet_O', n_1, n_2, n_3, n_4, n_5, n_10, n_11]
        · simp (disch := omega) only [g5, g7, digit_n h7 (show c < 6561 by omega) (show i ≤ 8 by omega), Option.bind_some, aI_n, aL_n, aQ_n, sA_n, sL_n, csA_n, i_0, i_1, i_2, i_3, i_4, i_5, i_6, i_7, i_8, i_9, i_10, i_11, i_12, i_13, i_16, i_20, i_21, i_22, i_31, i_99, i_100, i_256, i_1000, nI_eq, nI_leI, nI_ltI, nI_add, pk_mul, ↓reduceIte, nt_le, nf_le, nt_lt, nf_lt, nt_eq, nf_eq, meet_N', meet_P', meet_S', meet_Z', meet_B', meet_O', n_1, n_2, n_3, n_4, n_5, n_10, n_11]
