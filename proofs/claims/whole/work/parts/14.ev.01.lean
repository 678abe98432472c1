theorem p2inj {n m : Nat} (h : 2 ^ n = 2 ^ m) : n = m := by
  rcases Nat.lt_trichotomy n m with q | q | q
  · have := Nat.pow_lt_pow_right (a := 2) (by omega) q; omega
  · exact q
  · have := Nat.pow_lt_pow_right (a := 2) (by omega) q; omega
theorem St_same_ok : St_same Sim := by
  intro o z r a1 a2 h
  have h3 := h.2.2.1
  unfold fX9_same fX9_same_J17 fX9_same_J28 fX9_same_J70 fX10_same fX10_same_J14 fX10_same_J35 fX10_same_J62
  rcases plc h3 a2 with hx2 | hx2
  · refine ⟨(-2, z), (-2, r), ?_, ?_, rfl, h⟩
    · simp (disch := omega) only [isPl9_out hx2, Option.bind_some, aI_n, aL_n, aQ_n, sA_n, sL_n, csA_n, i_0, i_1, i_2, i_3, i_4, i_5, i_6, i_7, i_8, i_9, i_10, i_11, i_12, i_13, i_16, i_20, i_21, i_22, i_31, i_99, i_100, i_256, i_1000, nI_eq, nI_leI, nI_ltI, nI_add, pk_mul, ↓reduceIte, nt_le, nf_le, nt_lt, nf_lt, nt_eq, nf_eq, meet_N', meet_P', meet_S', meet_Z', meet_B', meet_O', n_1, n_2, n_3, n_4, n_5, n_10, n_11] <;> rfl
    · rcases ix a1 (n := 8) (by omega) with hx1 | ⟨k, hk, rfl⟩
      · simp (disch := omega) only [isPl10_out hx1, Option.bind_some, aI_n, aL_n, aQ_n, sA_n, sL_n, csA_n, i_0, i_1, i_2, i_3, i_4, i_5, i_6, i_7, i_8, i_9, i_10, i_11, i_12, i_13, i_16, i_20, i_21, i_22, i_31, i_99, i_100, i_256, i_1000, nI_eq, nI_leI, nI_ltI, nI_add, pk_mul, ↓reduceIte, nt_le, nf_le, nt_lt, nf_lt, nt_eq, nf_eq, meet_N', meet_P', meet_S', meet_Z', meet_B', meet_O', n_1, n_2, n_3, n_4, n_5, n_10, n_11]
      · simp (disch := omega) only [isPl10_in hk, isPl10_out hx2, Option.bind_some, aI_n, aL_n, aQ_n, sA_n, sL_n, csA_n, i_0, i_1, i_2, i_3, i_4, i_5, i_6, i_7, i_8, i_9, i_10, i_11, i_12, i_13, i_16, i_20, i_21, i_22, i_31, i_99, i_100, i_256, i_1000, nI_eq, nI_leI, nI_ltI, nI_add, pk_mul, ↓reduceIte, nt_le, nf_le, nt_lt, nf_lt, nt_eq, nf_eq, meet_N', meet_P', meet_S', meet_Z', meet_B', meet_O', n_1, n_2, n_3, n_4, n_5, n_10, n_11]
  · obtain ⟨k2, hk2, rfl⟩ : ∃ k, k < 8 ∧ a2 = nI k := by
      rcases hx2 with ⟨k, hk, e, _⟩ | ⟨k, q, n, kd, wt, g, b, hk, e, _⟩
      · exact ⟨k, hk, e⟩
      · exact ⟨k, hk, e⟩
    rcases plc h3 a1 with hx1 | ⟨k, hk, rfl, e, e'⟩ | ⟨k, q, n, kd, wt, g, b, hk, rfl, e, t1, t2, n1, n8, hg, d1, d2, d3, p2, p1⟩
    · refine ⟨(-2, z), (-2, r), ?_, ?_, rfl, h⟩
      · simp (disch := omega) only [isPl9_in hk2, find9_out hx1, Option.bind_some, aI_n, aL_n, aQ_n, sA_n, sL_n, csA_n, i_0, i_1, i_2, i_3, i_4, i_5, i_6, i_7, i_8, i_9, i_10, i_11, i_12, i_13, i_16, i_20, i_21, i_22, i_31, i_99, i_100, i_256, i_1000, nI_eq, nI_leI, nI_ltI, nI_add, pk_mul, ↓reduceIte, nt_le, nf_le, nt_lt, nf_lt, nt_eq, nf_eq, meet_N', meet_P', meet_S', meet_Z', meet_B', meet_O', n_1, n_2, n_3, n_4, n_5, n_10, n_11] <;> rfl
      · simp (disch := omega) only [isPl10_out hx1, Option.bind_some, aI_n, aL_n, aQ_n, sA_n, sL_n, csA_n, i_0, i_1, i_2, i_3, i_4, i_5, i_6, i_7, i_8, i_9, i_10, i_11, i_12, i_13, i_16, i_20, i_21, i_22, i_31, i_99, i_100, i_256, i_1000, nI_eq, nI_leI, nI_ltI, nI_add, pk_mul, ↓reduceIte, nt_le, nf_le, nt_lt, nf_lt, nt_eq, nf_eq, meet_N', meet_P', meet_S', meet_Z', meet_B', meet_O', n_1, n_2, n_3, n_4, n_5, n_10, n_11]
    · refine ⟨(-10, _), (-10, _), ?_, ?_, rfl, Sim_met h⟩
      · simp (disch := omega) only [isPl9_in hk2, find9_no hk e, Option.bind_some, aI_n, aL_n, aQ_n, sA_n, sL_n, csA_n, i_0, i_1, i_2, i_3, i_4, i_5, i_6, i_7, i_8, i_9, i_10, i_11, i_12, i_13, i_16, i_20, i_21, i_22, i_31, i_99, i_100, i_256, i_1000, nI_eq, nI_leI, nI_ltI, nI_add, pk_mul, ↓reduceIte, nt_le, nf_le, nt_lt, nf_lt, nt_eq, nf_eq, meet_N', meet_P', meet_S', meet_Z', meet_B', meet_O', n_1, n_2, n_3, n_4, n_5, n_10, n_11] <;> rfl
      · simp (disch := omega) only [isPl10_in hk2, isPl10_in hk, e', meet_N, Option.bind_some, aI_n, aL_n, aQ_n, sA_n, sL_n, csA_n, i_0, i_1, i_2, i_3, i_4, i_5, i_6, i_7, i_8, i_9, i_10, i_11, i_12, i_13, i_16, i_20, i_21, i_22, i_31, i_99, i_100, i_256, i_1000, nI_eq, nI_leI, nI_ltI, nI_add, pk_mul, ↓reduceIte, nt_le, nf_le, nt_lt, nf_lt, nt_eq, nf_eq, meet_N', meet_P', meet_S', meet_Z', meet_B', meet_O', n_1, n_2, n_3, n_4, n_5, n_10, n_11] <;> rfl
    · rcases hx2 with ⟨k', hk', ek, e2, e2'⟩ | ⟨k', q', n', kd', wt', g', b', hk', ek, e2, t1', t2', n1', n8', hg', d1', d2', d3', p2', p1'⟩
      · obtain rfl := (nI_eq (by omega) (by omega)).mp ek
        refine ⟨(-10, _), (-10, _), ?_, ?_, rfl, Sim_met h⟩
        · simp (disch := omega) only [isPl9_in hk2, find9_yes hk e, find9_no hk2 e2, Option.bind_some, aI_n, aL_n, aQ_n, sA_n, sL_n, csA_n, i_0, i_1, i_2, i_3, i_4, i_5, i_6, i_7, i_8, i_9, i_10, i_11, i_12, i_13, i_16, i_20, i_21, i_22, i_31, i_99, i_100, i_256, i_1000, nI_eq, nI_leI, nI_ltI, nI_add, pk_mul, ↓reduceIte, nt_le, nf_le, nt_lt, nf_lt, nt_eq, nf_eq, meet_N', meet_P', meet_S', meet_Z', meet_B', meet_O', n_1, n_2, n_3, n_4, n_5, n_10, n_11] <;> rfl
        · simp (disch := omega) only [isPl10_in hk2, isPl10_in hk, t2.1, e2', meet_N, Option.bind_some, aI_n, aL_n, aQ_n, sA_n, sL_n, csA_n, i_0, i_1, i_2, i_3, i_4, i_5, i_6, i_7, i_8, i_9, i_10, i_11, i_12, i_13, i_16, i_20, i_21, i_22, i_31, i_99, i_100, i_256, i_1000, nI_eq, nI_leI, nI_ltI, nI_add, pk_mul, ↓reduceIte, nt_le, nf_le, nt_lt, nf_lt, nt_eq, nf_eq, meet_N', meet_P', meet_S', meet_Z', meet_B', meet_O', n_1, n_2, n_3, n_4, n_5, n_10, n_11] <;> rfl
      · obtain rfl := (nI_eq (by omega) (by omega)).mp ek
        by_cases hn : n = n'
        · subst hn
          obtain ⟨e1, e2', g1, g2, rfl⟩ := same_lp (o := o) (show k < 16 by omega) (show k2 < 16 by omega) t2 t2' n8 d2 d3 d3'
          refine ⟨(if e1 = 0 then 0 else 1, z), (if e1 = 0 then 0 else 1, r), ?_, ?_, rfl, h⟩
          · rw [show ((1 : Int32), (0 : Int32)) = (nI 1, nI 0) from rfl] at g1
            simp (disch := omega) only [isPl9_in hk2, find9_yes hk e, find9_yes hk2 e2, e, d1, e2, d1', d2, d2', g1, Option.bind_some, aI_n, aL_n, aQ_n, sA_n, sL_n, csA_n, i_0, i_1, i_2, i_3, i_4, i_5, i_6, i_7, i_8, i_9, i_10, i_11, i_12, i_13, i_16, i_20, i_21, i_22, i_31, i_99, i_100, i_256, i_1000, nI_eq, nI_leI, nI_ltI, nI_add, pk_mul, ↓reduceIte, nt_le, nf_le, nt_lt, nf_lt, nt_eq, nf_eq, meet_N', meet_P', meet_S', meet_Z', meet_B', meet_O', n_1, n_2, n_3, n_4, n_5, n_10, n_11]
            by_cases q0 : e1 = nI 0 <;> simp only [q0, if_true, if_false]
          · rw [show ((1 : Int32), (0 : Int32)) = (nI 1, nI 0) from rfl] at g2
            simp (disch := omega) only [isPl10_in hk2, isPl10_in hk, t2.1, t2'.1, g2, Option.bind_some, aI_n, aL_n, aQ_n, sA_n, sL_n, csA_n, i_0, i_1, i_2, i_3, i_4, i_5, i_6, i_7, i_8, i_9, i_10, i_11, i_12, i_13, i_16, i_20, i_21, i_22, i_31, i_99, i_100, i_256, i_1000, nI_eq, nI_leI, nI_ltI, nI_add, pk_mul, ↓reduceIte, nt_le, nf_le, nt_lt, nf_lt, nt_eq, nf_eq, meet_N', meet_P', meet_S', meet_Z', meet_B', meet_O', n_1, n_2, n_3, n_4, n_5, n_10, n_11]
            by_cases q0 : e1 = nI 0 <;> simp only [q0, if_true, if_false]
        · have hp : 2 ^ n ≠ 2 ^ n' := fun q => hn (p2inj q)
          refine ⟨(0, z), (0, r), ?_, ?_, rfl, h⟩
          · have g1 : lpN (fun u => fX9_same_L75 o z b b' u.1 u.2) bigN (nI 0, nI 0) = some (nI 0) := lpN_e (by unfold fX9_same_L75; simp (disch := omega) only [Option.bind_some, aI_n, aL_n, aQ_n, sA_n, sL_n, csA_n, i_0, i_1, i_2, i_3, i_4, i_5, i_6, i_7, i_8, i_9, i_10, i_11, i_12, i_13, i_16, i_20, i_21, i_22, i_31, i_99, i_100, i_256, i_1000, nI_eq, nI_leI, nI_ltI, nI_add, pk_mul, ↓reduceIte, nt_le, nf_le, nt_lt, nf_lt, nt_eq, nf_eq, meet_N', meet_P', meet_S', meet_Z', meet_B', meet_O', n_1, n_2, n_3, n_4, n_5, n_10, n_11])
            simp (disch := omega) only [isPl9_in hk2, find9_yes hk e, find9_yes hk2 e2, e, d1, e2, d1', d2, d2', g1, Option.bind_some, aI_n, aL_n, aQ_n, sA_n, sL_n, csA_n, i_0, i_1, i_2, i_3, i_4, i_5, i_6, i_7, i_8, i_9, i_10, i_11, i_12, i_13, i_16, i_20, i_21, i_22, i_31, i_99, i_100, i_256, i_1000, nI_eq, nI_leI, nI_ltI, nI_add, pk_mul, ↓reduceIte, nt_le, nf_le, nt_lt, nf_lt, nt_eq, nf_eq, meet_N', meet_P', meet_S', meet_Z', meet_B', meet_O', n_1, n_2, n_3, n_4, n_5, n_10, n_11]
          · have g1 : lpN (fun u => fX10_same_L66 r (nI k) (nI k2) u.1 u.2) bigN (nI 0, nI 0) = some (nI 0) := lpN_e (by unfold fX10_same_L66; simp (disch := omega) only [inputs_n (show k < 16 by omega) t2.1 n8, Option.bind_some, aI_n, aL_n, aQ_n, sA_n, sL_n, csA_n, i_0, i_1, i_2, i_3, i_4, i_5, i_6, i_7, i_8, i_9, i_10, i_11, i_12, i_13, i_16, i_20, i_21, i_22, i_31, i_99, i_100, i_256, i_1000, nI_eq, nI_leI, nI_ltI, nI_add, pk_mul, ↓reduceIte, nt_le, nf_le, nt_lt, nf_lt, nt_eq, nf_eq, meet_N', meet_P', meet_S', meet_Z', meet_B', meet_O', n_1, n_2, n_3, n_4, n_5, n_10, n_11])
            simp (disch := omega) only [isPl10_in hk2, isPl10_in hk, t2.1, t2'.1, g1, Option.bind_some, aI_n, aL_n, aQ_n, sA_n, sL_n, csA_n, i_0, i_1, i_2, i_3, i_4, i_5, i_6, i_7, i_8, i_9, i_10, i_11, i_12, i_13, i_16, i_20, i_21, i_22, i_31, i_99, i_100, i_256, i_1000, nI_eq, nI_leI, nI_ltI, nI_add, pk_mul, ↓reduceIte, nt_le, nf_le, nt_lt, nf_lt, nt_eq, nf_eq, meet_N', meet_P', meet_S', meet_Z', meet_B', meet_O', n_1, n_2, n_3, n_4, n_5, n_10, n_11]
/-! tasks taken from place to place in the reference -/
def TakeR (r r' : RS) (p q : Nat) : Prop := r'.1 = r.1 ∧ r'.2.2 = r.2.2 ∧ (∀ k, 4 ≤ k → r'.2.1 k = r.2.1 k) ∧ (∀ k, k < 3 → r'.2.1 k = upd (r.2.1 k) q (r.2.1 k p)) ∧ (∀ x, x < 256 → r'.2.1 3 (256 * q + x) = r.2.1 3 (256 * p + x)) ∧ ∀ j, ¬ (256 * q ≤ j ∧ j < 256 * q + 256) → r'.2.1 3 j = r.2.1 3 j
theorem take_n (r : RS) {p q : Nat} (hp : p < 16) (hq : q < 16) : ∃ r', fX10_take r (nI p) (nI q) = some r' ∧ TakeR r r' p q := by
  have hlp : ∀ r0 : RS, ∃ e, lpN (fun u => fX10_take_L38 u.2 (nI p) (nI q) u.1) bigN (nI 0, r0) = some e ∧ (e.1 = r0.1 ∧ e.2.2 = r0.2.2 ∧ (∀ k, k ≠ 3 → e.2.1 k = r0.2.1 k) ∧ (∀ x, x < 256 → e.2.1 3 (256 * q + x) = r0.2.1 3 (256 * p + x)) ∧ ∀ j, ¬ (256 * q ≤ j ∧ j < 256 * q + 256) → e.2.1 3 j = r0.2.1 3 j) := by
    intro r0
    refine lp_count (fun i s => s.1 = nI i ∧ s.2.1 = r0.1 ∧ s.2.2.2 = r0.2.2 ∧ (∀ k, k ≠ 3 → s.2.2.1 k = r0.2.1 k) ∧ (∀ x, x < i → s.2.2.1 3 (256 * q + x) = r0.2.1 3 (256 * p + x)) ∧ ∀ j, ¬ (256 * q ≤ j ∧ j < 256 * q + i) → s.2.2.1 3 j = r0.2.1 3 j) 256 _ (bigN_gt (by omega)) (fun i s hi hs => ?_) (fun s hs => ?_) ⟨rfl, rfl, rfl, fun _ _ => rfl, fun x hx => by omega, fun _ _ => rfl⟩
    · obtain ⟨l, rr⟩ := s
      obtain ⟨rfl, s1, s2, s3, s4, s5⟩ := hs
      simp only at s1 s2 s3 s4 s5
      refine ⟨(nI (i + 1), rA rr 3 (256 * q + i) (rr.2.1 3 (256 * p + i))), ?_, rfl, s1, s2, fun k hk => ?_, fun x hx => ?_, fun j hj => ?_⟩
      · unfold fX10_take_L38
        simp (disch := omega) only [Option.bind_some, aI_n, aL_n, aQ_n, sA_n, sL_n, csA_n, i_0, i_1, i_2, i_3, i_4, i_5, i_6, i_7, i_8, i_9, i_10, i_11, i_12, i_13, i_16, i_20, i_21, i_22, i_31, i_99, i_100, i_256, i_1000, nI_eq, nI_leI, nI_ltI, nI_add, pk_mul, ↓reduceIte, nt_le, nf_le, nt_lt, nf_lt, nt_eq, nf_eq, meet_N', meet_P', meet_S', meet_Z', meet_B', meet_O', n_1, n_2, n_3, n_4, n_5, n_10, n_11]
      · rw [← s3 k hk]; simp only [rA_A, if_neg hk]
      · simp only [rA_A, if_true]
        have hv : rr.2.1 3 (256 * p + i) = r0.2.1 3 (256 * p + i) := by
          by_cases hc : 256 * q ≤ 256 * p + i ∧ 256 * p + i < 256 * q + i
          · omega
          · exact s5 _ hc
        by_cases hxi : x = i
        · subst hxi; rw [pk_us, hv]
        · rw [pk_un (by omega)]; exact s4 x (by omega)
      · simp only [rA_A, if_true]
        rw [pk_un (by omega)]; exact s5 j (by omega)
    · obtain ⟨l, rr⟩ := s
      obtain ⟨rfl, s1, s2, s3, s4, s5⟩ := hs
      exact ⟨rr, by unfold fX10_take_L38; simp (disch := omega) only [Option.bind_some, aI_n, aL_n, aQ_n, sA_n, sL_n, csA_n, i_0, i_1, i_2, i_3, i_4, i_5, i_6, i_7, i_8, i_9, i_10, i_11, i_12, i_13, i_16, i_20, i_21, i_22, i_31, i_99, i_100, i_256, i_1000, nI_eq, nI_leI, nI_ltI, nI_add, pk_mul, ↓reduceIte, nt_le, nf_le, nt_lt, nf_lt, nt_eq, nf_eq, meet_N', meet_P', meet_S', meet_Z', meet_B', meet_O', n_1, n_2, n_3, n_4, n_5, n_10, n_11], s1, s2, s3, s4, s5⟩
  obtain ⟨e, g1, g2, g3, g4, g5, g6⟩ := hlp (rA (rA (rA r 0 q (r.2.1 0 p)) 1 q (r.2.1 1 p)) 2 q (r.2.1 2 p))
  refine ⟨e, ?_, g2, g3, fun k hk => ?_, fun k hk => ?_, g5, g6⟩
  · unfold fX10_take
    simp (disch := omega) only [Option.bind_some, aI_n, aL_n, aQ_n, sA_n, sL_n, csA_n, i_0, i_1, i_2, i_3, i_4, i_5, i_6, i_7, i_8, i_9, i_10, i_11, i_12, i_13, i_16, i_20, i_21, i_22, i_31, i_99, i_100, i_256, i_1000, nI_eq, nI_leI, nI_ltI, nI_add, pk_mul, ↓reduceIte, nt_le, nf_le, nt_lt, nf_lt, nt_eq, nf_eq, meet_N', meet_P', meet_S', meet_Z', meet_B', meet_O', n_1, n_2, n_3, n_4, n_5, n_10, n_11]
    simp only [rA_A] at g1 ⊢
    exact congrArg (fun u => u.bind fun e9 => some e9) g1
  · rw [g4 k (by omega)]
    simp only [rA_A, if_neg (show ¬ k = 0 by omega), if_neg (show ¬ k = 1 by omega), if_neg (show ¬ k = 2 by omega)]
  · rw [g4 k (by omega)]
    rcases (show k = 0 ∨ k = 1 ∨ k = 2 by omega) with rfl | rfl | rfl <;> rfl
theorem TakeR.same {r r' : RS} {p q : Nat} (h : TakeR r r' p q) {j : Nat} (hj : j ≠ q) : RSame r r' j := by
  obtain ⟨h1, h2, h3, h4, h5, h6⟩ := h
  exact ⟨by rw [h4 0 (by omega), pk_un hj], by rw [h4 1 (by omega), pk_un hj], by rw [h4 2 (by omega), pk_un hj], fun x hx => h6 _ (by omega)⟩
theorem TakeR.tk {r r' : RS} {p q n : Nat} {kd wt : Int32} {g : Nat → Nat} (h : TakeR r r' p q) (ht : TkR r p n kd wt g) (hn : n ≤ 8) : TkR r' q n kd wt g := by
  obtain ⟨h1, h2, h3, h4, h5, h6⟩ := h
  obtain ⟨t1, t2, t3, t4⟩ := ht
  have p2 := p2le hn
  refine ⟨by rw [h4 0 (by omega), pk_us]; exact t1, by rw [h4 1 (by omega), pk_us]; exact t2, by rw [h4 2 (by omega), pk_us]; exact t3, fun x hx => by rw [h5 x (by omega)]; exact t4 x hx⟩
/-- only what the places and the kept places have has changed -/
theorem Sim_pl {o : Nat} {z z' : CS} {r r' : RS} (h : Sim o z r) (hz1 : z'.1 = z.1) (hz2 : z'.2.1 = z.2.1) (hz3 : z'.2.2.1 0 = z.2.2.1 0) (hz4 : z'.2.2.2 = z.2.2.2) (hr1 : r'.1 = r.1) (hr2 : r'.2.2 = r.2.2) (hr3 : ∀ k, 4 ≤ k → r'.2.1 k = r.2.1 k) (p1 : PlR z' r' 1 0) (p2 : PlR z' r' 2 8) : Sim o z' r' := by
  obtain ⟨h1, h2, h3, h4, h5, h6, h7, h8, h9, h10, h11, h12, h13⟩ := id h
  obtain ⟨zi, za, zq, zw⟩ := z
  obtain ⟨zi', za', zq', zw'⟩ := z'
  obtain ⟨ri, ra, rl⟩ := r
  obtain ⟨ri', ra', rl'⟩ := r'
  simp only at hz1 hz2 hz3 hz4 hr1 hr2 hr3
  subst hz1 hz2 hz4 hr1 hr2
  have eS : ∀ q, dS (zi', za', zq', zw') q = dS (zi', za', zq, zw') q := fun _ => rfl
  have eL : ∀ q, dL (zi', za', zq', zw') q = dL (zi', za', zq, zw') q := fun _ => rfl
  refine ⟨h1, ?_, p1, p2, ?_, h6, ?_, ?_, ?_, h10, h11, h12, ?_⟩
  · unfold ShR at h2 ⊢
    simp only [hz3, hr3 4 (by omega), hr3 5 (by omega)] at h2 ⊢
    exact h2
  · unfold WtR at h5 ⊢
    simp only [hr3 7 (by omega)] at h5 ⊢
    exact h5
  · unfold PwR at h7 ⊢
    simp only [hr3 11 (by omega)] at h7 ⊢
    exact h7
  · unfold TrR at h8 ⊢
    simp only [hr3 16 (by omega), hr3 17 (by omega), hr3 18 (by omega), hr3 19 (by omega)] at h8 ⊢
    exact h8
  · unfold FoR at h9 ⊢
    simp only [hr3 26 (by omega)] at h9 ⊢
    exact h9
  · unfold GaR at h13 ⊢
    simp only [hr3 29 (by omega), hr3 30 (by omega)] at h13 ⊢
    exact h13
