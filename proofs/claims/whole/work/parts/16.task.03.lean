theorem Sim_shown {o : Nat} {z : CS} {r : RS} {x y : Nat} (hx : x < 256) (hy : y < 256) (h : Sim o z r) : Sim o (cI z 2 (nI (x * 256 + y))) (rI (rI r 3 (nI x)) 4 (nI y)) := by
  obtain ⟨h1, h2, h3, h4, h5, h6, h7, h8, h9, h10, h11, h12, h13⟩ := h
  exact ⟨h1, h2, h3, h4, h5, ⟨h6.1, h6.2.1, Or.inr ⟨x, y, hx, hy, rfl, rfl, rfl⟩⟩, h7, h8, h9, h10, h11, h12, h13⟩
theorem kind_new {o : Nat} {z : CS} {r : RS} {k q n b kn : Nat} {kd wt : Int32} {g : Nat → Nat} (h : Sim o z r) (hkn : kn ≤ 2) (hk : k < 8) (t1 : TkAt z q n kd wt g) (t2 : TkR r k n kd wt g) (n1 : 1 ≤ n) (n8 : n ≤ 8) (hg : ∀ x, g x ≤ 2) (d1 : dT z q = some (kd, nI n, wt, some b)) : ∃ z', ((fX9_plainTask o z (nI kn) (nI n) b).bind fun q7 => (stQT q7.2 1 (nI k) (some q7.1)).bind fun z8 => (dT z8 q).bind fun t9 => some (t9.1, z8)) = some (kd, z') ∧ Sim o z' (rA r 1 k (nI kn)) := by
  obtain ⟨h1, h2, h3, -⟩ := id h
  obtain ⟨b', f, u1, u2, u3, -, -, -⟩ := id t1
  obtain rfl : b = b' := by
    have := d1.symm.trans u1
    simp only [Option.some.injEq, Prod.mk.injEq] at this
    exact this.2.2.2
  have key : ∀ wt' : Int32, (nI kn = 0 ∧ wt' = nI n ∨ nI kn = 3 ∧ wt' = r.2.1 2 k ∨ nI kn = 4 ∧ wt' = nI (n + 100) ∨ (nI kn = 1 ∨ nI kn = 2) ∧ wt' = nI (n + 10)) → fX9_plainTask o z (nI kn) (nI n) b = some (cn z, cNw z (.inl (nI kn, nI n, wt', some b))) → ∃ z', ((fX9_plainTask o z (nI kn) (nI n) b).bind fun q7 => (stQT q7.2 1 (nI k) (some q7.1)).bind fun z8 => (dT z8 q).bind fun t9 => some (t9.1, z8)) = some (kd, z') ∧ Sim o z' (rA r 1 k (nI kn)) := by
    intro wt' hw hp
    have px := Nw_PX h1 (.inl (nI kn, nI n, wt', some b))
    have ht : TkAt (cNw z (.inl (nI kn, nI n, wt', some b))) (cn z) n (nI kn) wt' g := ⟨b, f, dT_Nw, px.2.2.2.2.1.B u2, u3, n1, n8, hg⟩
    refine ⟨cQ (cNw z (.inl (nI kn, nI n, wt', some b))) 1 k (some (cn z)), ?_, Sim_newtask (r' := rA r 1 k (nI kn)) h (PX.rf h1) hk ht rfl rfl (fun j hj _ _ => ?_) (fun j hj hjk => ⟨rfl, ?_, rfl, fun y hy => rfl⟩) ⟨t2.1, ?_, hw, t2.2.2.2⟩⟩
    · rw [hp, Option.bind_some, stQT_n hk (okT_n ht), Option.bind_some, dT_Q, px.2.2.2.2.1.T d1]
      rfl
    · simp only [rA_A, if_neg (show ¬ j = 1 by omega)]
    · show upd (r.2.1 1) k (nI kn) j = _
      rw [pk_un hjk]
    · show upd (r.2.1 1) k (nI kn) k = _
      rw [pk_us]
  rcases (show kn = 0 ∨ kn = 1 ∨ kn = 2 by omega) with rfl | rfl | rfl
  · exact key (nI n) (Or.inl ⟨rfl, rfl⟩) (plainT_0 h1)
  · exact key (nI (n + 10)) (Or.inr (Or.inr (Or.inr ⟨Or.inl rfl, rfl⟩))) ((plainT_k h1 (by decide)).trans (by rw [show nI n + 10 = nI (n + 10) from nI_add n 10]))
  · exact key (nI (n + 10)) (Or.inr (Or.inr (Or.inr ⟨Or.inr rfl, rfl⟩))) ((plainT_k h1 (by decide)).trans (by rw [show nI n + 10 = nI (n + 10) from nI_add n 10]))
theorem St_kind_ok : St_kind Sim := by
  intro o z r a1 a2 h
  obtain ⟨h1, h2, h3, -⟩ := id h
  unfold fX9_kind fX9_kind_J9 fX9_kind_J19 fX10_kind fX10_kind_J51 fX10_kind_J16
  rcases ix a2 (n := 3) (by omega) with hx3 | ⟨v, hv, rfl⟩
  · refine ⟨(-2, z), (-2, r), ?_, ?_, rfl, h⟩
    · by_cases h0 : a2 < nI 0
      · simp (disch := omega) only [h0, Option.bind_some, aI_n, aL_n, aQ_n, sA_n, sL_n, csA_n, i_0, i_1, i_2, i_3, i_4, i_5, i_6, i_7, i_8, i_9, i_10, i_11, i_12, i_13, i_16, i_20, i_21, i_22, i_31, i_99, i_100, i_256, i_1000, nI_eq, nI_leI, nI_ltI, nI_add, pk_mul, ↓reduceIte, nt_le, nf_le, nt_lt, nf_lt, nt_eq, nf_eq, meet_N', meet_P', meet_S', meet_Z', meet_B', meet_O', n_1, n_2, n_3, n_4, n_5, n_10, n_11]
      · have c2 : ¬ a2 ≤ nI 2 := out4 (m := 2) (by omega) hx3 h0
        simp (disch := omega) only [h0, c2, Option.bind_some, aI_n, aL_n, aQ_n, sA_n, sL_n, csA_n, i_0, i_1, i_2, i_3, i_4, i_5, i_6, i_7, i_8, i_9, i_10, i_11, i_12, i_13, i_16, i_20, i_21, i_22, i_31, i_99, i_100, i_256, i_1000, nI_eq, nI_leI, nI_ltI, nI_add, pk_mul, ↓reduceIte, nt_le, nf_le, nt_lt, nf_lt, nt_eq, nf_eq, meet_N', meet_P', meet_S', meet_Z', meet_B', meet_O', n_1, n_2, n_3, n_4, n_5, n_10, n_11]
    · rcases ix a1 (n := 8) (by omega) with hx | ⟨s, hs, rfl⟩
      · simp (disch := omega) only [isPl10_out hx, Option.bind_some, aI_n, aL_n, aQ_n, sA_n, sL_n, csA_n, i_0, i_1, i_2, i_3, i_4, i_5, i_6, i_7, i_8, i_9, i_10, i_11, i_12, i_13, i_16, i_20, i_21, i_22, i_31, i_99, i_100, i_256, i_1000, nI_eq, nI_leI, nI_ltI, nI_add, pk_mul, ↓reduceIte, nt_le, nf_le, nt_lt, nf_lt, nt_eq, nf_eq, meet_N', meet_P', meet_S', meet_Z', meet_B', meet_O', n_1, n_2, n_3, n_4, n_5, n_10, n_11]
      · by_cases h0 : a2 < nI 0
        · simp (disch := omega) only [isPl10_in hs, h0, Option.bind_some, aI_n, aL_n, aQ_n, sA_n, sL_n, csA_n, i_0, i_1, i_2, i_3, i_4, i_5, i_6, i_7, i_8, i_9, i_10, i_11, i_12, i_13, i_16, i_20, i_21, i_22, i_31, i_99, i_100, i_256, i_1000, nI_eq, nI_leI, nI_ltI, nI_add, pk_mul, ↓reduceIte, nt_le, nf_le, nt_lt, nf_lt, nt_eq, nf_eq, meet_N', meet_P', meet_S', meet_Z', meet_B', meet_O', n_1, n_2, n_3, n_4, n_5, n_10, n_11]
        · have c2 : ¬ a2 ≤ nI 2 := out4 (m := 2) (by omega) hx3 h0
          simp (disch := omega) only [isPl10_in hs, h0, c2, Option.bind_some, aI_n, aL_n, aQ_n, sA_n, sL_n, csA_n, i_0, i_1, i_2, i_3, i_4, i_5, i_6, i_7, i_8, i_9, i_10, i_11, i_12, i_13, i_16, i_20, i_21, i_22, i_31, i_99, i_100, i_256, i_1000, nI_eq, nI_leI, nI_ltI, nI_add, pk_mul, ↓reduceIte, nt_le, nf_le, nt_lt, nf_lt, nt_eq, nf_eq, meet_N', meet_P', meet_S', meet_Z', meet_B', meet_O', n_1, n_2, n_3, n_4, n_5, n_10, n_11]
  rcases plc h3 a1 with hx | ⟨k, hk, rfl, e, e'⟩ | ⟨k, q, n, kd, wt, g, b, hk, rfl, e, t1, t2, n1, n8, hg, d1, d2, d3, p2, p1⟩
  · refine ⟨(-2, z), (-2, r), ?_, ?_, rfl, h⟩
    · simp (disch := omega) only [find9_out hx, Option.bind_some, aI_n, aL_n, aQ_n, sA_n, sL_n, csA_n, i_0, i_1, i_2, i_3, i_4, i_5, i_6, i_7, i_8, i_9, i_10, i_11, i_12, i_13, i_16, i_20, i_21, i_22, i_31, i_99, i_100, i_256, i_1000, nI_eq, nI_leI, nI_ltI, nI_add, pk_mul, ↓reduceIte, nt_le, nf_le, nt_lt, nf_lt, nt_eq, nf_eq, meet_N', meet_P', meet_S', meet_Z', meet_B', meet_O', n_1, n_2, n_3, n_4, n_5, n_10, n_11]
    · simp (disch := omega) only [isPl10_out hx, Option.bind_some, aI_n, aL_n, aQ_n, sA_n, sL_n, csA_n, i_0, i_1, i_2, i_3, i_4, i_5, i_6, i_7, i_8, i_9, i_10, i_11, i_12, i_13, i_16, i_20, i_21, i_22, i_31, i_99, i_100, i_256, i_1000, nI_eq, nI_leI, nI_ltI, nI_add, pk_mul, ↓reduceIte, nt_le, nf_le, nt_lt, nf_lt, nt_eq, nf_eq, meet_N', meet_P', meet_S', meet_Z', meet_B', meet_O', n_1, n_2, n_3, n_4, n_5, n_10, n_11]
  · refine ⟨(-10, _), (-10, _), ?_, ?_, rfl, Sim_met h⟩
    · simp (disch := omega) only [find9_no hk e, Option.bind_some, aI_n, aL_n, aQ_n, sA_n, sL_n, csA_n, i_0, i_1, i_2, i_3, i_4, i_5, i_6, i_7, i_8, i_9, i_10, i_11, i_12, i_13, i_16, i_20, i_21, i_22, i_31, i_99, i_100, i_256, i_1000, nI_eq, nI_leI, nI_ltI, nI_add, pk_mul, ↓reduceIte, nt_le, nf_le, nt_lt, nf_lt, nt_eq, nf_eq, meet_N', meet_P', meet_S', meet_Z', meet_B', meet_O', n_1, n_2, n_3, n_4, n_5, n_10, n_11] <;> rfl
    · simp (disch := omega) only [isPl10_in hk, e', Option.bind_some, aI_n, aL_n, aQ_n, sA_n, sL_n, csA_n, i_0, i_1, i_2, i_3, i_4, i_5, i_6, i_7, i_8, i_9, i_10, i_11, i_12, i_13, i_16, i_20, i_21, i_22, i_31, i_99, i_100, i_256, i_1000, nI_eq, nI_leI, nI_ltI, nI_add, pk_mul, ↓reduceIte, nt_le, nf_le, nt_lt, nf_lt, nt_eq, nf_eq, meet_N', meet_P', meet_S', meet_Z', meet_B', meet_O', n_1, n_2, n_3, n_4, n_5, n_10, n_11] <;> rfl
  · obtain ⟨z', w1, w2⟩ := kind_new h (show v ≤ 2 by omega) hk t1 t2 n1 n8 hg d1
    have hk16 : k < 16 := by omega
    by_cases v0 : v = 0
    · subst v0
      have pa : fX9_pairAgainst o z q (nI 0) = some (-nI 1) := by unfold fX9_pairAgainst; rw [if_pos (show nI 0 = 0 from rfl)]; rfl
      refine ⟨(kd, z'), (kd, _), ?_, ?_, rfl, w2⟩
      · simp (disch := omega) only [find9_yes hk e, e, pa, mnI', d1, Option.bind_some, aI_n, aL_n, aQ_n, sA_n, sL_n, csA_n, i_0, i_1, i_2, i_3, i_4, i_5, i_6, i_7, i_8, i_9, i_10, i_11, i_12, i_13, i_16, i_20, i_21, i_22, i_31, i_99, i_100, i_256, i_1000, nI_eq, nI_leI, nI_ltI, nI_add, pk_mul, ↓reduceIte, nt_le, nf_le, nt_lt, nf_lt, nt_eq, nf_eq, meet_N', meet_P', meet_S', meet_Z', meet_B', meet_O', n_1, n_2, n_3, n_4, n_5, n_10, n_11]
        exact w1
      · simp (disch := omega) only [isPl10_in hk, t2.1, t2.2.1, Option.bind_some, aI_n, aL_n, aQ_n, sA_n, sL_n, csA_n, i_0, i_1, i_2, i_3, i_4, i_5, i_6, i_7, i_8, i_9, i_10, i_11, i_12, i_13, i_16, i_20, i_21, i_22, i_31, i_99, i_100, i_256, i_1000, nI_eq, nI_leI, nI_ltI, nI_add, pk_mul, ↓reduceIte, nt_le, nf_le, nt_lt, nf_lt, nt_eq, nf_eq, meet_N', meet_P', meet_S', meet_Z', meet_B', meet_O', n_1, n_2, n_3, n_4, n_5, n_10, n_11] <;> rfl
    · have hv12 : v = 1 ∨ v = 2 := by omega
      have vn0 : ¬ nI v = nI 0 := by rcases hv12 with rfl | rfl <;> decide
      have p := pair_n (o := o) hv12 t1 n1 n8 hg d1 d2 d3
      have s := shows_n hv12 hk16 t2 n1 n8 hg
      have hit : ∀ x y, x < 256 → y < 256 → fX9_pairAgainst o z q (nI v) = some (nI (x * 256 + y)) → fX10_shows r (nI k) (nI v) = some (nI 1, rI (rI r 3 (nI x)) 4 (nI y)) → ∃ (q1 : Int32 × CS) (q2 : Int32 × RS), fX9_kind o z (nI k) (nI v) = some q1 ∧ fX10_kind r (nI k) (nI v) = some q2 ∧ q1.1 = q2.1 ∧ Sim o q1.2 q2.2 := by
        intro x y hx hy pa sh
        refine ⟨(-3, _), (-3, _), ?_, ?_, rfl, Sim_shown hx hy h⟩
        · unfold fX9_kind fX9_kind_J19
          simp (disch := omega) only [find9_yes hk e, e, pa, mnI _ (show x * 256 + y < 2 ^ 31 by omega), Option.bind_some, aI_n, aL_n, aQ_n, sA_n, sL_n, csA_n, i_0, i_1, i_2, i_3, i_4, i_5, i_6, i_7, i_8, i_9, i_10, i_11, i_12, i_13, i_16, i_20, i_21, i_22, i_31, i_99, i_100, i_256, i_1000, nI_eq, nI_leI, nI_ltI, nI_add, pk_mul, ↓reduceIte, nt_le, nf_le, nt_lt, nf_lt, nt_eq, nf_eq, meet_N', meet_P', meet_S', meet_Z', meet_B', meet_O', n_1, n_2, n_3, n_4, n_5, n_10, n_11] <;> rfl
        · unfold fX10_kind
          simp (disch := omega) only [isPl10_in hk, t2.1, vn0, sh, Option.bind_some, aI_n, aL_n, aQ_n, sA_n, sL_n, csA_n, i_0, i_1, i_2, i_3, i_4, i_5, i_6, i_7, i_8, i_9, i_10, i_11, i_12, i_13, i_16, i_20, i_21, i_22, i_31, i_99, i_100, i_256, i_1000, nI_eq, nI_leI, nI_ltI, nI_add, pk_mul, ↓reduceIte, nt_le, nf_le, nt_lt, nf_lt, nt_eq, nf_eq, meet_N', meet_P', meet_S', meet_Z', meet_B', meet_O', n_1, n_2, n_3, n_4, n_5, n_10, n_11] <;> rfl
      rcases p with ⟨x, p1, p2', p3, p4⟩ | ⟨p0, p⟩
      · rcases s with ⟨y, s1, s2, s3, s4⟩ | ⟨s0, s⟩
        · have : x = y := by
            rcases Nat.lt_trichotomy x y with w | w | w
            · exact absurd p2' (s3 x w)
            · exact w
            · exact absurd s2 (p3 y w)
          subst this
          exact hit x x (by omega) (by omega) p4 s4
        · exact absurd p2' (s0 x p1)
      · rcases s with ⟨y, s1, s2, s3, s4⟩ | ⟨s0, s⟩
        · exact absurd s2 (p0 y s1)
        · rcases p with ⟨pa, pn⟩ | ⟨x, y, lp, pa⟩
          · rcases s with ⟨sa, sn⟩ | ⟨x', y', ls, sa⟩
            · refine ⟨(kd, z'), (kd, _), ?_, ?_, rfl, w2⟩
              · simp (disch := omega) only [find9_yes hk e, e, pa, mnI', d1, Option.bind_some, aI_n, aL_n, aQ_n, sA_n, sL_n, csA_n, i_0, i_1, i_2, i_3, i_4, i_5, i_6, i_7, i_8, i_9, i_10, i_11, i_12, i_13, i_16, i_20, i_21, i_22, i_31, i_99, i_100, i_256, i_1000, nI_eq, nI_leI, nI_ltI, nI_add, pk_mul, ↓reduceIte, nt_le, nf_le, nt_lt, nf_lt, nt_eq, nf_eq, meet_N', meet_P', meet_S', meet_Z', meet_B', meet_O', n_1, n_2, n_3, n_4, n_5, n_10, n_11]
                exact w1
              · simp (disch := omega) only [isPl10_in hk, t2.1, t2.2.1, vn0, sa, Option.bind_some, aI_n, aL_n, aQ_n, sA_n, sL_n, csA_n, i_0, i_1, i_2, i_3, i_4, i_5, i_6, i_7, i_8, i_9, i_10, i_11, i_12, i_13, i_16, i_20, i_21, i_22, i_31, i_99, i_100, i_256, i_1000, nI_eq, nI_leI, nI_ltI, nI_add, pk_mul, ↓reduceIte, nt_le, nf_le, nt_lt, nf_lt, nt_eq, nf_eq, meet_N', meet_P', meet_S', meet_Z', meet_B', meet_O', n_1, n_2, n_3, n_4, n_5, n_10, n_11] <;> rfl
            · exact absurd ls.2.2.1 (pn x' ls.1 y' ls.2.1)
          · rcases s with ⟨sa, sn⟩ | ⟨x', y', ls, sa⟩
            · exact absurd lp.2.2.1 (sn x lp.1 y lp.2.1)
            · obtain ⟨rfl, rfl⟩ := LPr_u lp ls
              have := lp.1
              have := lp.2.1
              exact hit x y (by omega) (by omega) pa sa
