theorem form266 {r : RS} {n M : Nat} {g ls ch : Nat → Nat} (hn : n ≤ 4) (hg : ∀ x, g x ≤ 2) (hB : RBm n g r) (hN : Nd25 n g (r.2.1 25) 0) (h7 : r.1 7 = nI 0) (hM : M ≤ 16) (hS : Seq n g M ls ch) (hA : ∀ k, k ≤ M → ls k < 65536 ∧ IsMin (okc n g) (IMc n) (3 ^ n) (ls k) (M - k)) : ∃ e, lpN (fun u => fX10_form_L266 u.2 (nI (Ym n g)) u.1) bigN (nI 0, r) = some e ∧ (RM r e ∧ e.1 7 = nI M ∧ ∀ k, k < M → e.2.1 26 k = nI (ch k)) := by
  have p8 := p81 hn
  have Y16 := Ym_16 hn g
  refine lp_count (fun k s => ∃ cov rr, s = (nI cov, rr) ∧ cov &&& Ym n g = cov ∧ df (Ym n g) cov = ls k ∧ (RM r rr ∧ rr.2.1 25 = r.2.1 25 ∧ rr.2.1 27 = r.2.1 27) ∧ rr.1 7 = nI k ∧ ∀ j, j < k → rr.2.1 26 j = nI (ch j)) M _ (bigN_gt (by omega)) (fun k s hk hs => ?_) (fun s hs => ?_) ⟨0, r, rfl, Nat.zero_and _, ?_, ⟨RM.rf, rfl, rfl⟩, h7, fun j hj => by omega⟩
  · obtain ⟨cov, rr, rfl, s1, s2, ⟨s3, s4, s5⟩, s6, s7⟩ := hs
    obtain ⟨hl, hd⟩ := hS.2 k hk
    obtain ⟨a1, a2⟩ := hA k (by omega)
    have cle : cov ≤ Ym n g := by rw [← s1]; exact Nat.and_le_right
    have hB' : RBm n g rr := ⟨s3.pw hB.1, fun c hc => by rw [s3.2.1 12 (by omega) (by omega) (by omega)]; exact hB.2.1 c hc, fun c hc => by rw [s5]; exact hB.2.2 c hc⟩
    have hne : cov ≠ Ym n g := fun q => by
      rw [q, df_self _ Y16] at s2
      have := (Min_0 a2).mpr s2.symm
      omega
    have r25 : rr.2.1 25 cov = nI (M - k) := by
      obtain ⟨m, m1, m2, m3⟩ := hN cov (Nat.zero_le _) s1
      rw [s2] at m2
      rw [s4, m3, IsMin_u m2 a2]
    have nxt : ∀ c, c < 3 ^ n → okc n g c ∧ IMc n c &&& lw (ls k) ≠ 0 → ∃ m', m' ≤ 16 ∧ IsMin (okc n g) (IMc n) (3 ^ n) (df (ls k) (IMc n c)) m' ∧ rr.2.1 25 (cov ||| (IMc n c &&& Ym n g)) = nI m' ∧ cov ||| (IMc n c &&& Ym n g) ≤ Ym n g := fun c hc w => by
      have su := cov_sub (m := IMc n c) Y16 s1
      obtain ⟨m', b1, b2, b3⟩ := hN (cov ||| (IMc n c &&& Ym n g)) (Nat.zero_le _) su
      rw [cov_df Y16, s2] at b2
      exact ⟨m', b1, b2, by rw [s4]; exact b3, by rw [← su]; exact Nat.and_le_right⟩
    have inx : ∀ c, c < 3 ^ n → (okc n g c ∧ IMc n c &&& lw (ls k) ≠ 0 → fX10_isNext rr (nI c) (nI (Ym n g)) (nI cov) = some (nI 1)) ∧ (¬ (okc n g c ∧ IMc n c &&& lw (ls k) ≠ 0) → fX10_isNext rr (nI c) (nI (Ym n g)) (nI cov) = some (nI 0)) := fun c hc => by
      have h := isNext_n (cov := cov) hn hg hB' hc Y16
      rw [s2] at h
      exact h
    have c3 := hl.1.1
    have k276 : lpN (fun u => fX10_form_L276 rr (nI (Ym n g)) (nI cov) u) bigN (nI 0) = some (nI (ch k)) := by
      refine lp_det (body := fun u => fX10_form_L276 rr (nI (Ym n g)) (nI cov) u) (fun c => nI c) (ch k) (bigN_gt (by omega)) (fun c hc => ?_) ?_
      · have nn := hl.2 c hc
        unfold fX10_form_L276 fX10_form_L276_J319
        by_cases w : okc n g c ∧ IMc n c &&& lw (ls k) ≠ 0
        · obtain ⟨m', b1, b2, b3, b4⟩ := nxt c (by omega) w
          have neq : ¬ 1 + m' = M - k := fun q => by
            refine nn ⟨by omega, w.1, w.2, m', ?_, b2.1⟩
            rw [show m' + 1 = M - k by omega]
            exact a2
          simp (disch := omega) only [(inx c (by omega)).1 w, hB'.2.2 c (by omega), nI_and, nI_or, b3, r25, Option.bind_some, aI_n, aL_n, aQ_n, sA_n, sL_n, csA_n, i_0, i_1, i_2, i_3, i_4, i_5, i_6, i_7, i_8, i_9, i_10, i_11, i_12, i_13, i_16, i_20, i_21, i_22, i_31, i_99, i_100, i_256, i_1000, nI_eq, nI_leI, nI_ltI, nI_add, pk_mul, ↓reduceIte, nt_le, nf_le, nt_lt, nf_lt, nt_eq, nf_eq, meet_N', meet_P', meet_S', meet_Z', meet_B', meet_O', n_1, n_2, n_3, n_4, n_5, n_10, n_11]
        · simp (disch := omega) only [(inx c (by omega)).2 w, Option.bind_some, aI_n, aL_n, aQ_n, sA_n, sL_n, csA_n, i_0, i_1, i_2, i_3, i_4, i_5, i_6, i_7, i_8, i_9, i_10, i_11, i_12, i_13, i_16, i_20, i_21, i_22, i_31, i_99, i_100, i_256, i_1000, nI_eq, nI_leI, nI_ltI, nI_add, pk_mul, ↓reduceIte, nt_le, nf_le, nt_lt, nf_lt, nt_eq, nf_eq, meet_N', meet_P', meet_S', meet_Z', meet_B', meet_O', n_1, n_2, n_3, n_4, n_5, n_10, n_11]
      · obtain ⟨-, ok, q, m, b1, b2⟩ := hl.1
        obtain ⟨m', d1, d2, d3, d4⟩ := nxt (ch k) c3 ⟨ok, q⟩
        have em := IsMin_u b1 a2
        have e2 : m' = m := IsMin_u d2 (NxC_min a1 hl.1 b1)
        unfold fX10_form_L276
        simp (disch := omega) only [(inx (ch k) c3).1 ⟨ok, q⟩, hB'.2.2 (ch k) c3, nI_and, nI_or, d3, r25, Option.bind_some, aI_n, aL_n, aQ_n, sA_n, sL_n, csA_n, i_0, i_1, i_2, i_3, i_4, i_5, i_6, i_7, i_8, i_9, i_10, i_11, i_12, i_13, i_16, i_20, i_21, i_22, i_31, i_99, i_100, i_256, i_1000, nI_eq, nI_leI, nI_ltI, nI_add, pk_mul, ↓reduceIte, nt_le, nf_le, nt_lt, nf_lt, nt_eq, nf_eq, meet_N', meet_P', meet_S', meet_Z', meet_B', meet_O', n_1, n_2, n_3, n_4, n_5, n_10, n_11]
    have cle' : cov ||| (IMc n (ch k) &&& Ym n g) ≤ Ym n g := by
      rw [← cov_sub (m := IMc n (ch k)) Y16 s1]; exact Nat.and_le_right
    have r27 : (rI (rA rr 26 k (nI (ch k))) 7 (nI (k + 1))).2.1 27 (ch k) = nI (IMc n (ch k)) := by
      show (rA rr 26 k (nI (ch k))).2.1 27 (ch k) = _
      rw [rA_n (by omega)]; exact hB'.2.2 (ch k) c3
    have r7 : (rA rr 26 k (nI (ch k))).1 7 = nI k := s6
    refine ⟨(nI (cov ||| (IMc n (ch k) &&& Ym n g)), rI (rA rr 26 k (nI (ch k))) 7 (nI (k + 1))), ?_, _, _, rfl, cov_sub Y16 s1, ?_, ⟨(s3.up (by omega)).i7, ?_, ?_⟩, rI_e, fun j hj => ?_⟩
    · show fX10_form_L266 rr (nI (Ym n g)) (nI cov) = _
      unfold fX10_form_L266
      simp (disch := omega) only [k276, s6, r7, r27, nI_and, nI_or, Option.bind_some, aI_n, aL_n, aQ_n, sA_n, sL_n, csA_n, i_0, i_1, i_2, i_3, i_4, i_5, i_6, i_7, i_8, i_9, i_10, i_11, i_12, i_13, i_16, i_20, i_21, i_22, i_31, i_99, i_100, i_256, i_1000, nI_eq, nI_leI, nI_ltI, nI_add, pk_mul, ↓reduceIte, nt_le, nf_le, nt_lt, nf_lt, nt_eq, nf_eq, meet_N', meet_P', meet_S', meet_Z', meet_B', meet_O', n_1, n_2, n_3, n_4, n_5, n_10, n_11]
    · rw [cov_df Y16, s2, hd]
    · show (rA rr 26 k (nI (ch k))).2.1 25 = _
      rw [rA_n (by omega)]; exact s4
    · show (rA rr 26 k (nI (ch k))).2.1 27 = _
      rw [rA_n (by omega)]; exact s5
    · show (rA rr 26 k (nI (ch k))).2.1 26 j = _
      by_cases e : j = k
      · rw [e]; exact rA_s
      · rw [rA_j e]; exact s7 j (by omega)
  · obtain ⟨cov, rr, rfl, s1, s2, ⟨s3, s4, s5⟩, s6, s7⟩ := hs
    have a2 := (hA M (Nat.le_refl _)).2
    rw [Nat.sub_self] at a2
    have l0 := (Min_0 a2).mp rfl
    rw [l0] at s2
    have e := df_0 Y16 s1 s2
    refine ⟨rr, ?_, s3, s6, s7⟩
    show fX10_form_L266 rr (nI (Ym n g)) (nI cov) = _
    rw [e]
    unfold fX10_form_L266
    simp (disch := omega) only [Option.bind_some, aI_n, aL_n, aQ_n, sA_n, sL_n, csA_n, i_0, i_1, i_2, i_3, i_4, i_5, i_6, i_7, i_8, i_9, i_10, i_11, i_12, i_13, i_16, i_20, i_21, i_22, i_31, i_99, i_100, i_256, i_1000, nI_eq, nI_leI, nI_ltI, nI_add, pk_mul, ↓reduceIte, nt_le, nf_le, nt_lt, nf_lt, nt_eq, nf_eq, meet_N', meet_P', meet_S', meet_Z', meet_B', meet_O', n_1, n_2, n_3, n_4, n_5, n_10, n_11]
  · rw [hS.1]
    refine bt_ext (n := 16) (by have := df_le (Ym n g) 0; omega) Y16 (fun j hj => ?_)
    rw [bt_df (by omega), bt_z]
    rcases bt01 (Ym n g) j with y | y <;> rw [y] <;> simp
theorem Sim_form {o : Nat} {z e : CS} {r r' : RS} {M : Nat} {ch : Nat → Nat} (h : Sim o z r) (hz : ZF z e) (hr : RM r r') (hM : M ≤ 16) (z9 : e.1 9 = nI M) (r7 : r'.1 7 = nI M) (hz13 : ∀ k, k < M → e.2.1 13 k = nI (ch k)) (hr26 : ∀ k, k < M → r'.2.1 26 k = nI (ch k)) : Sim o e r' := by
  obtain ⟨g1, g2, g3, g4, g5, g6, g7, g8, g9, g10, g11, g12, g13⟩ := h
  obtain ⟨a1, a2, a3⟩ := hz
  obtain ⟨b1, b2, b3⟩ := hr
  have hp : e.2.2.2.2 = z.2.2.2.2 := by rw [a3]
  have ge : TkGe z e := TkGe_id (by rw [hp])
  have B2 : ∀ k, k < 25 ∨ 27 < k → r'.2.1 k = r.2.1 k := fun k hk => b2 k (by omega) (by omega) (by omega)
  have A2 : ∀ k, k < 13 ∨ 15 < k → e.2.1 k = z.2.1 k := fun k hk => a2 k (by omega) (by omega) (by omega)
  have A1 : ∀ k, k < 9 ∨ 10 < k → e.1 k = z.1 k := fun k hk => a1 k (by omega) (by omega)
  have rs : ∀ p, RSame r r' p := fun p => ⟨by rw [B2 0 (by omega)], by rw [B2 1 (by omega)], by rw [B2 2 (by omega)], fun x _ => by rw [B2 3 (by omega)]⟩
  refine ⟨?_, ?_, ?_, ?_, ?_, ?_, ?_, ?_, ⟨M, hM, z9, r7, fun k hk => by rw [hz13 k hk, hr26 k hk]⟩, ?_, ?_, ?_, ?_⟩
  · unfold PoolOK cpl cn at g1 ⊢
    rw [hp]; exact g1
  · exact ShR_ge g2 (pool_ge hp) (ShR_okd g2) (by rw [a3]) ⟨B2 4 (by omega), B2 5 (by omega), by rw [b3]⟩
  · exact PlR_all g3 ge (fun j _ => by rw [a3]) (fun p _ => rs _)
  · exact PlR_all g4 ge (fun j _ => by rw [a3]) (fun p _ => rs _)
  · unfold WtR at g5 ⊢
    rw [A1 1 (by omega), A2 0 (by omega), b1 1 (by omega), B2 7 (by omega)]; exact g5
  · unfold ScR at g6 ⊢
    rw [A1 3 (by omega), A1 0 (by omega), A1 2 (by omega), b1 2 (by omega), b1 0 (by omega), b1 3 (by omega), b1 4 (by omega)]; exact g6
  · unfold PwR at g7 ⊢
    rw [B2 11 (by omega)]; exact g7
  · unfold TrR at g8 ⊢
    rw [A1 6 (by omega), A2 3 (by omega), A2 4 (by omega), A2 5 (by omega), b1 5 (by omega), B2 16 (by omega), B2 17 (by omega), B2 18 (by omega), B2 19 (by omega)]; exact g8
  · unfold LeR at g10 ⊢
    rw [A1 11 (by omega), A2 16 (by omega)]; exact g10
  · exact CuR_ge g11 ge (by rw [a3]) (A1 5 (by omega)) (A1 4 (by omega)) (A2 1 (by omega)) (A2 2 (by omega))
  · exact CuR_ge g12 ge (by rw [a3]) (A1 16 (by omega)) (A1 15 (by omega)) (A2 17 (by omega)) (A2 18 (by omega))
  · exact GaR_ge g13 ge (by rw [a3]) ⟨A1 12 (by omega), A1 13 (by omega), A1 14 (by omega), A1 15 (by omega)⟩ ⟨b1 8 (by omega), b1 9 (by omega), B2 29 (by omega), B2 30 (by omega)⟩
theorem St_form_ok : St_form Sim := by
  intro o z r a1 h
  obtain ⟨h1, h2, h3, h4, h5, h6, h7, -⟩ := id h
  unfold fX9_form fX10_form
  rcases plc h3 a1 with hx | ⟨k, hk, rfl, e, e'⟩ | ⟨k, q, n, kd, wt, g, b, hk, rfl, e, t1, t2, n1, n8, hg, d1, d2, d3, p2, p1⟩
  · refine ⟨(-2, z), (-2, r), ?_, ?_, rfl, h⟩
    · simp (disch := omega) only [find9_out hx, Option.bind_some, aI_n, aL_n, aQ_n, sA_n, sL_n, csA_n, i_0, i_1, i_2, i_3, i_4, i_5, i_6, i_7, i_8, i_9, i_10, i_11, i_12, i_13, i_16, i_20, i_21, i_22, i_31, i_99, i_100, i_256, i_1000, nI_eq, nI_leI, nI_ltI, nI_add, pk_mul, ↓reduceIte, nt_le, nf_le, nt_lt, nf_lt, nt_eq, nf_eq, meet_N', meet_P', meet_S', meet_Z', meet_B', meet_O', n_1, n_2, n_3, n_4, n_5, n_10, n_11]
    · simp (disch := omega) only [askP_out hx, Option.bind_some, aI_n, aL_n, aQ_n, sA_n, sL_n, csA_n, i_0, i_1, i_2, i_3, i_4, i_5, i_6, i_7, i_8, i_9, i_10, i_11, i_12, i_13, i_16, i_20, i_21, i_22, i_31, i_99, i_100, i_256, i_1000, nI_eq, nI_leI, nI_ltI, nI_add, pk_mul, ↓reduceIte, nt_le, nf_le, nt_lt, nf_lt, nt_eq, nf_eq, meet_N', meet_P', meet_S', meet_Z', meet_B', meet_O', n_1, n_2, n_3, n_4, n_5, n_10, n_11]
  · refine ⟨(-10, _), (-10, _), ?_, ?_, rfl, Sim_met h⟩
    · simp (disch := omega) only [find9_no hk e, Option.bind_some, aI_n, aL_n, aQ_n, sA_n, sL_n, csA_n, i_0, i_1, i_2, i_3, i_4, i_5, i_6, i_7, i_8, i_9, i_10, i_11, i_12, i_13, i_16, i_20, i_21, i_22, i_31, i_99, i_100, i_256, i_1000, nI_eq, nI_leI, nI_ltI, nI_add, pk_mul, ↓reduceIte, nt_le, nf_le, nt_lt, nf_lt, nt_eq, nf_eq, meet_N', meet_P', meet_S', meet_Z', meet_B', meet_O', n_1, n_2, n_3, n_4, n_5, n_10, n_11] <;> rfl
    · simp (disch := omega) only [askP_no hk e', Option.bind_some, aI_n, aL_n, aQ_n, sA_n, sL_n, csA_n, i_0, i_1, i_2, i_3, i_4, i_5, i_6, i_7, i_8, i_9, i_10, i_11, i_12, i_13, i_16, i_20, i_21, i_22, i_31, i_99, i_100, i_256, i_1000, nI_eq, nI_leI, nI_ltI, nI_add, pk_mul, ↓reduceIte, nt_le, nf_le, nt_lt, nf_lt, nt_eq, nf_eq, meet_N', meet_P', meet_S', meet_Z', meet_B', meet_O', n_1, n_2, n_3, n_4, n_5, n_10, n_11] <;> rfl
  · have hk16 : k < 16 := by omega
    by_cases n4 : n ≤ 4
    · have p := p16 n4
      have p8 := p81 n4
      obtain ⟨f, u2, u3⟩ := TkB t1 d1
      obtain ⟨M, ls, ch, hM, hS, hA⟩ := Seq_ex (g := g) n4
      obtain ⟨ez, x1, x2, x3, x4⟩ := find_n (o := o) n4 d1 u2 u3 hg hM hS hA
      obtain ⟨r1, v1, v2⟩ := tell_n h7 hk16 t2 hg n8
      have t2' : TkR r1 k n kd wt g := RSame.tk (r := r) ⟨by rw [v2.2.2.1 0 (by omega)], by rw [v2.2.2.1 1 (by omega)], by rw [v2.2.2.1 2 (by omega)], fun x _ => by rw [v2.2.2.1 3 (by omega)]⟩ n8 t2
      have pw := v2.pw h7
      have l42 : lpN (fun u => fX10_form_L42 r1 (nI k) (nI n) u.1 u.2) bigN (nI 0, nI 0) = some (nI (Ym n g)) := by
        refine lp_det (body := fun u => fX10_form_L42 r1 (nI k) (nI n) u.1 u.2) (fun i => (nI (nmF (fun x => if g x = 1 then 1 else 0) i), nI i)) (2 ^ n) (bigN_gt (by omega)) (fun i hi => ?_) ?_
        · have a := nmF_lt (Ym_le g i)
          have gl := hg i
          have es : nmF (fun x => if g x = 1 then 1 else 0) (i + 1) = nmF (fun x => if g x = 1 then 1 else 0) i + (if g i = 1 then 1 else 0) * 2 ^ i := rfl
          unfold fX10_form_L42 fX10_form_L42_J73
          by_cases c : g i = 1
          · rw [es, if_pos c, Nat.one_mul]
            simp (disch := omega) only [inputs_n hk16 t2'.1 n8, say0_n hk16 t2' n8 hi, c, shl16 i (by omega), or_16 a (show i < 17 by omega), Option.bind_some, aI_n, aL_n, aQ_n, sA_n, sL_n, csA_n, i_0, i_1, i_2, i_3, i_4, i_5, i_6, i_7, i_8, i_9, i_10, i_11, i_12, i_13, i_16, i_20, i_21, i_22, i_31, i_99, i_100, i_256, i_1000, nI_eq, nI_leI, nI_ltI, nI_add, pk_mul, ↓reduceIte, nt_le, nf_le, nt_lt, nf_lt, nt_eq, nf_eq, meet_N', meet_P', meet_S', meet_Z', meet_B', meet_O', n_1, n_2, n_3, n_4, n_5, n_10, n_11]
          · rw [es, if_neg c, Nat.zero_mul, Nat.add_zero]
            simp (disch := omega) only [inputs_n hk16 t2'.1 n8, say0_n hk16 t2' n8 hi, nI_or, Nat.or_zero, Option.bind_some, aI_n, aL_n, aQ_n, sA_n, sL_n, csA_n, i_0, i_1, i_2, i_3, i_4, i_5, i_6, i_7, i_8, i_9, i_10, i_11, i_12, i_13, i_16, i_20, i_21, i_22, i_31, i_99, i_100, i_256, i_1000, nI_eq, nI_leI, nI_ltI, nI_add, pk_mul, ↓reduceIte, nt_le, nf_le, nt_lt, nf_lt, nt_eq, nf_eq, meet_N', meet_P', meet_S', meet_Z', meet_B', meet_O', n_1, n_2, n_3, n_4, n_5, n_10, n_11]
        · unfold fX10_form_L42
          simp (disch := omega) only [inputs_n hk16 t2'.1 n8, Option.bind_some, aI_n, aL_n, aQ_n, sA_n, sL_n, csA_n, i_0, i_1, i_2, i_3, i_4, i_5, i_6, i_7, i_8, i_9, i_10, i_11, i_12, i_13, i_16, i_20, i_21, i_22, i_31, i_99, i_100, i_256, i_1000, nI_eq, nI_leI, nI_ltI, nI_add, pk_mul, ↓reduceIte, nt_le, nf_le, nt_lt, nf_lt, nt_eq, nf_eq, meet_N', meet_P', meet_S', meet_Z', meet_B', meet_O', n_1, n_2, n_3, n_4, n_5, n_10, n_11]
          rfl
      obtain ⟨r2, a1, a2, a3, a4, a5, -⟩ := fillA (body := fun u => fX10_form_L85 u.2 (nI n) (nI (Ym n g)) u.1) (r0 := r1) (k := 27) (base := 0) (N := 3 ^ n) (v := fun c => nI (IMc n c)) (by omega) (fun i rr hi _ _ e3 _ _ => by
        have pw' : PwR rr := fun j hj => by rw [e3 11 (by omega)]; exact pw j hj
        show fX10_form_L85 rr (nI n) (nI (Ym n g)) (nI i) = _
        rw [Nat.zero_add]
        unfold fX10_form_L85
        simp (disch := omega) only [pw' n (by omega), inputs10_n pw' n4 hi, Option.bind_some, aI_n, aL_n, aQ_n, sA_n, sL_n, csA_n, i_0, i_1, i_2, i_3, i_4, i_5, i_6, i_7, i_8, i_9, i_10, i_11, i_12, i_13, i_16, i_20, i_21, i_22, i_31, i_99, i_100, i_256, i_1000, nI_eq, nI_leI, nI_ltI, nI_add, pk_mul, ↓reduceIte, nt_le, nf_le, nt_lt, nf_lt, nt_eq, nf_eq, meet_N', meet_P', meet_S', meet_Z', meet_B', meet_O', n_1, n_2, n_3, n_4, n_5, n_10, n_11]) (fun rr _ _ e3 => by
        have pw' : PwR rr := fun j hj => by rw [e3 11 (by omega)]; exact pw j hj
        unfold fX10_form_L85
        simp (disch := omega) only [pw' n (by omega), Option.bind_some, aI_n, aL_n, aQ_n, sA_n, sL_n, csA_n, i_0, i_1, i_2, i_3, i_4, i_5, i_6, i_7, i_8, i_9, i_10, i_11, i_12, i_13, i_16, i_20, i_21, i_22, i_31, i_99, i_100, i_256, i_1000, nI_eq, nI_leI, nI_ltI, nI_add, pk_mul, ↓reduceIte, nt_le, nf_le, nt_lt, nf_lt, nt_eq, nf_eq, meet_N', meet_P', meet_S', meet_Z', meet_B', meet_O', n_1, n_2, n_3, n_4, n_5, n_10, n_11])
      have m2 : RM r1 r2 := ⟨fun j _ => by rw [a2], fun j _ _ c => a4 j c, a3⟩
      have rb2 : RBm n g r2 := ⟨m2.pw pw, fun c hc => by rw [a4 12 (by omega)]; exact (v2.2.2.2 c hc).1, fun c hc => by have := a5 c hc; rw [Nat.zero_add] at this; exact this⟩
      obtain ⟨r3, b1, b2, b3, b4⟩ := form120 n4 hg rb2
      obtain ⟨r4, c1, c2, c3, c4⟩ := form266 (r := rI r3 7 (nI 0)) n4 hg b3 b4 rI_e hM hS hA
      have mt : RM r1 r4 := by
        refine ⟨fun j hj => ?_, fun j x y w => ?_, ?_⟩
        · rw [c2.1 j hj, rI_n hj, b2.1 j hj, m2.1 j hj]
        · rw [c2.2.1 j x y w]
          show r3.2.1 j = _
          rw [b2.2.1 j x y w, m2.2.1 j x y w]
        · rw [c2.2.2]
          show r3.2.2 = _
          rw [b2.2.2, m2.2.2]
      refine ⟨(nI M, ez), (nI M, r4), ?_, ?_, rfl, Sim_form (v2.sim h) x2 mt hM x3 c3 x4 c4⟩
      · simp (disch := omega) only [find9_yes hk e, e, d1, x1, x3, Option.bind_some, aI_n, aL_n, aQ_n, sA_n, sL_n, csA_n, i_0, i_1, i_2, i_3, i_4, i_5, i_6, i_7, i_8, i_9, i_10, i_11, i_12, i_13, i_16, i_20, i_21, i_22, i_31, i_99, i_100, i_256, i_1000, nI_eq, nI_leI, nI_ltI, nI_add, pk_mul, ↓reduceIte, nt_le, nf_le, nt_lt, nf_lt, nt_eq, nf_eq, meet_N', meet_P', meet_S', meet_Z', meet_B', meet_O', n_1, n_2, n_3, n_4, n_5, n_10, n_11]
      · simp (disch := omega) only [askP_yes hk t2.1 n1 n8, t2.1, v1, l42, a1, b1, c1, c3, Option.bind_some, aI_n, aL_n, aQ_n, sA_n, sL_n, csA_n, i_0, i_1, i_2, i_3, i_4, i_5, i_6, i_7, i_8, i_9, i_10, i_11, i_12, i_13, i_16, i_20, i_21, i_22, i_31, i_99, i_100, i_256, i_1000, nI_eq, nI_leI, nI_ltI, nI_add, pk_mul, ↓reduceIte, nt_le, nf_le, nt_lt, nf_lt, nt_eq, nf_eq, meet_N', meet_P', meet_S', meet_Z', meet_B', meet_O', n_1, n_2, n_3, n_4, n_5, n_10, n_11]
    · refine ⟨(-5, z), (-5, r), ?_, ?_, rfl, h⟩
      · simp (disch := omega) only [find9_yes hk e, e, d1, Option.bind_some, aI_n, aL_n, aQ_n, sA_n, sL_n, csA_n, i_0, i_1, i_2, i_3, i_4, i_5, i_6, i_7, i_8, i_9, i_10, i_11, i_12, i_13, i_16, i_20, i_21, i_22, i_31, i_99, i_100, i_256, i_1000, nI_eq, nI_leI, nI_ltI, nI_add, pk_mul, ↓reduceIte, nt_le, nf_le, nt_lt, nf_lt, nt_eq, nf_eq, meet_N', meet_P', meet_S', meet_Z', meet_B', meet_O', n_1, n_2, n_3, n_4, n_5, n_10, n_11]
      · simp (disch := omega) only [askP_yes hk t2.1 n1 n8, t2.1, Option.bind_some, aI_n, aL_n, aQ_n, sA_n, sL_n, csA_n, i_0, i_1, i_2, i_3, i_4, i_5, i_6, i_7, i_8, i_9, i_10, i_11, i_12, i_13, i_16, i_20, i_21, i_22, i_31, i_99, i_100, i_256, i_1000, nI_eq, nI_leI, nI_ltI, nI_add, pk_mul, ↓reduceIte, nt_le, nf_le, nt_lt, nf_lt, nt_eq, nf_eq, meet_N', meet_P', meet_S', meet_Z', meet_B', meet_O', n_1, n_2, n_3, n_4, n_5, n_10, n_11]
