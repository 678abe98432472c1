def zS (z : CS) (k n : Nat) : CS := cNw (cNw z (.inr (.inr (.inl (nI k, some (cn z + 1)))))) (.inr (.inr (.inr (n, fun _ => 0))))
theorem dS_Nw {z : CS} {t : Int32 × Option Nat} : dS (cNw z (.inr (.inr (.inl t)))) (cn z) = some t := by
  unfold dS; rw [Nw_self]
theorem dL_Nw {z : CS} {t : Nat × (Nat → Int64)} : dL (cNw z (.inr (.inr (.inr t)))) (cn z) = some t := by
  unfold dL; rw [Nw_self]
theorem cD_Nw2 {z : CS} {x y w : PE} : cD (cNw (cNw z x) w) (cn z) y = cNw (cNw z y) w := by
  unfold cD cNw
  refine congrArg (fun f => (z.1, z.2.1, z.2.2.1, z.2.2.2.1, f, cn z + 1 + 1)) (funext fun j => ?_)
  show (if j = cn z then some y else if j = cn z + 1 then some w else if j = cn z then some x else cpl z j) = (if j = cn z + 1 then some w else if j = cn z then some y else cpl z j)
  by_cases h : j = cn z
  · rw [if_pos h, if_neg (by omega), if_pos h]
  · rw [if_neg h, if_neg h, if_neg h]
theorem init7_n {o : Nat} {z : CS} (h : PoolOK o z) {k n : Nat} (hn : n ≤ 256) : fX7_init o (cNw z (.inr (.inr (.inl (0, none))))) (cn z) (nI k) (nI n) = some (zS z k n) := by
  unfold fX7_init stS alL stSs
  simp only [dS_Nw, Option.bind_some, if_pos h.1, cD_Nw]
  rw [if_pos ⟨Nat.le_trans h.1 (Nat.le_succ _), lok_n hn⟩]
  simp only [Option.bind_some]
  have e : ∀ w : PE, dS (cNw (cNw z (.inr (.inr (.inl (nI k, none))))) w) (cn z) = some (nI k, none) := fun w => by
    unfold dS
    rw [Nw_old (show cn z ≠ cn z + 1 by omega), Nw_self]
  simp only [e, Option.bind_some, cD_Nw2, nI_clamp (show n < 2 ^ 31 by omega)]
  rfl
theorem zS_PX {o : Nat} {z : CS} (h : PoolOK o z) {k n : Nat} : PX o z (zS z k n) := by
  have h1 := Nw_PX h (.inr (.inr (.inl (nI k, some (cn z + 1)))))
  exact h1.tr (Nw_PX h1.2.2.2.2.2 _)
theorem zS_sh {o : Nat} {z : CS} (h : PoolOK o z) {k n : Nat} (hk : k ≤ 3) (hn : n ≤ 256) : ShAt (zS z k n) (cn z) k n (cn z + 1) (fun _ => 0) := by
  refine ⟨?_, dL_Nw, hk, hn⟩
  unfold dS zS
  rw [Nw_old (show cn z ≠ cn z + 1 by omega), Nw_self]
theorem Sim_newsheet {o : Nat} {z : CS} {r r' : RS} {s k n : Nat} (h : Sim o z r) (hs : s < 6) (hk : k ≤ 3) (hn : n ≤ 256) (h1 : r'.1 = r.1) (h2 : ∀ j, j ≠ 4 → j ≠ 5 → r'.2.1 j = r.2.1 j) (h4 : r'.2.1 4 = upd (r.2.1 4) s (nI k)) (h5 : r'.2.1 5 = upd (r.2.1 5) s (nI n)) (hr : ∀ i, i < n → r'.2.2 6 (256 * s + i) = 0) (ho : ∀ t i, t < 6 → t ≠ s → i < 256 → r'.2.2 6 (256 * t + i) = r.2.2 6 (256 * t + i)) : Sim o (cQ (zS z k n) 0 s (some (cn z))) r' := by
  obtain ⟨g1, g2, g3, g4, -⟩ := id h
  obtain ⟨y1, y2, y3, y4, y5, y6⟩ := zS_PX (k := k) (n := n) g1
  have hsa := zS_sh g1 hk hn
  have ge : TkGe z (cQ (zS z k n) 0 s (some (cn z))) := ⟨fun q t e => y5.T e, fun q t e => y5.B e⟩
  have hold : ∀ w k' n' a f, ShAt z w k' n' a f → ShAt (cQ (zS z k n) 0 s (some (cn z))) w k' n' a f := fun w k' n' a f q => ⟨y5.S q.1, y5.L q.2.1, q.2.2⟩
  have hat : ∀ t, t ≠ s → (cQ (zS z k n) 0 s (some (cn z))).2.2.1 0 t = z.2.2.1 0 t := fun t ht => by rw [cQ_k, vu_n ht, y3]
  have hats : (cQ (zS z k n) 0 s (some (cn z))).2.2.1 0 s = some (cn z) := by rw [cQ_k, vu_s]
  have row : ∀ t w k' n' a f, t < 6 → t ≠ s → z.2.2.1 0 t = some w → ShAt (cQ (zS z k n) 0 s (some (cn z))) w k' n' a f → a < cn z := by
    intro t w k' n' a f ht hts e q
    obtain ⟨k1, n1, a1, f1, q1, q2⟩ := (g2.1 t ht).2 w e
    have x := (hold _ _ _ _ _ q1).1.symm.trans q.1
    simp only [Option.some.injEq, Prod.mk.injEq] at x
    rw [← x.2]
    exact (g1.2 _ _ (dL_s q1.2.1)).2
  have rows : ∀ k' n' a f, ShAt (cQ (zS z k n) 0 s (some (cn z))) (cn z) k' n' a f → a = cn z + 1 := by
    intro k' n' a f q
    have x : some (nI k, some (cn z + 1)) = some (nI k', some a) := hsa.1.symm.trans q.1
    simp only [Option.some.injEq, Prod.mk.injEq] at x
    exact x.2.symm
  refine Sim_g h (fun k _ _ _ => congrFun y1 k) (fun k _ => congrFun y2 k) y4 ge (fun k _ => congrFun h1 k) (fun k hk => h2 k (by omega) (by omega)) y6 ⟨fun t ht => ?_, fun t u w w' k1 n1 a f1 k2 n2 f2 ht hu e1 e2 q1 q2 => ?_⟩ (PlR_all g3 ge (fun p _ => by rw [cQ_n (by omega), y3]) (fun p _ => ?_)) (PlR_all g4 ge (fun p _ => by rw [cQ_n (by omega), y3]) (fun p _ => ?_))
  · by_cases hts : t = s
    · subst hts
      rw [hats]
      refine ⟨fun q => (by cases q), fun q hq => ?_⟩
      obtain rfl := Option.some.inj hq
      exact ⟨k, n, cn z + 1, fun _ => 0, hsa, by rw [h4, pk_us], by rw [h5, pk_us], hr⟩
    · rw [hat t hts, h4, h5, pk_un hts, pk_un hts]
      refine ⟨(g2.1 t ht).1, fun q hq => ?_⟩
      obtain ⟨k1, n1, a1, f1, q1, q2, q3, q4⟩ := (g2.1 t ht).2 q hq
      have := q1.2.2.2
      exact ⟨k1, n1, a1, f1, hold _ _ _ _ _ q1, q2, q3, fun i hi => by rw [ho t i ht hts (by omega)]; exact q4 i hi⟩
  · by_cases hts : t = s
    · by_cases hus : u = s
      · rw [hts, hus]
      · subst hts
        rw [hats] at e1
        obtain rfl := Option.some.inj e1
        rw [hat u hus] at e2
        have x1 := rows _ _ _ _ q1
        have x2 := row u w' _ _ _ _ hu hus e2 q2
        omega
    · by_cases hus : u = s
      · subst hus
        rw [hats] at e2
        obtain rfl := Option.some.inj e2
        rw [hat t hts] at e1
        have x1 := rows _ _ _ _ q2
        have x2 := row t w _ _ _ _ ht hts e1 q1
        omega
      · rw [hat t hts] at e1
        rw [hat u hus] at e2
        obtain ⟨k3, n3, c3, f3, q3, q4⟩ := (g2.1 t ht).2 w e1
        obtain ⟨k4, n4, c4, f4, q5, q6⟩ := (g2.1 u hu).2 w' e2
        have x3 := (hold _ _ _ _ _ q3).1.symm.trans q1.1
        have x4 := (hold _ _ _ _ _ q5).1.symm.trans q2.1
        simp only [Option.some.injEq, Prod.mk.injEq] at x3 x4
        obtain ⟨-, rfl⟩ := x3
        obtain ⟨-, y4⟩ := x4
        subst y4
        exact g2.2 t u w w' k3 n3 _ f3 k4 n4 f4 ht hu e1 e2 q3 q5
  · unfold RSame; rw [h2 0 (by omega) (by omega), h2 1 (by omega) (by omega), h2 2 (by omega) (by omega), h2 3 (by omega) (by omega)]; exact ⟨rfl, rfl, rfl, fun _ _ => rfl⟩
  · unfold RSame; rw [h2 0 (by omega) (by omega), h2 1 (by omega) (by omega), h2 2 (by omega) (by omega), h2 3 (by omega) (by omega)]; exact ⟨rfl, rfl, rfl, fun _ _ => rfl⟩
theorem rL_6 {r : RS} {i : Nat} {x : Int64} : (rL r 6 i x).2.2 6 = vp_updL (r.2.2 6) i x := rfl
theorem sheet_lp {r0 : RS} {s n : Nat} (hs : s < 6) (hn : n ≤ 256) : ∃ e, lpN (fun u => fX10_sheet_L54 u.2 (nI s) (nI n) u.1) bigN (nI 0, r0) = some e ∧ (e.1 = r0.1 ∧ e.2.1 = r0.2.1 ∧ (∀ x, x < n → e.2.2 6 (256 * s + x) = 0) ∧ ∀ j, ¬ (256 * s ≤ j ∧ j < 256 * s + n) → e.2.2 6 j = r0.2.2 6 j) := by
  refine lp_count (fun i u => u.1 = nI i ∧ u.2.1 = r0.1 ∧ u.2.2.1 = r0.2.1 ∧ (∀ x, x < i → u.2.2.2 6 (256 * s + x) = 0) ∧ ∀ j, ¬ (256 * s ≤ j ∧ j < 256 * s + i) → u.2.2.2 6 j = r0.2.2 6 j) n _ (bigN_gt (by omega)) (fun i u hi hu => ?_) (fun u hu => ?_) ⟨rfl, rfl, rfl, fun x hx => by omega, fun _ _ => rfl⟩
  · obtain ⟨l, y⟩ := u
    obtain ⟨rfl, s1, s2, s3, s4⟩ := hu
    simp only at s1 s2 s3 s4
    refine ⟨(nI (i + 1), rL y 6 (256 * s + i) 0), ?_, rfl, s1, s2, fun x hx => ?_, fun j hj => ?_⟩
    · unfold fX10_sheet_L54
      simp (disch := omega) only [Option.bind_some, aI_n, aL_n, aQ_n, sA_n, sL_n, csA_n, i_0, i_1, i_2, i_3, i_4, i_5, i_6, i_7, i_8, i_9, i_10, i_11, i_12, i_13, i_16, i_20, i_21, i_22, i_31, i_99, i_100, i_256, i_1000, nI_eq, nI_leI, nI_ltI, nI_add, pk_mul, ↓reduceIte, nt_le, nf_le, nt_lt, nf_lt, nt_eq, nf_eq, meet_N', meet_P', meet_S', meet_Z', meet_B', meet_O', n_1, n_2, n_3, n_4, n_5, n_10, n_11]
    · show (rL y 6 (256 * s + i) 0).2.2 6 (256 * s + x) = 0
      rw [rL_6]
      by_cases hxi : x = i
      · subst hxi; rw [pk_uLs]
      · rw [pk_uLn (by omega)]; exact s3 x (by omega)
    · show (rL y 6 (256 * s + i) 0).2.2 6 j = _
      rw [rL_6, pk_uLn (by omega)]; exact s4 j (by omega)
  · obtain ⟨l, y⟩ := u
    obtain ⟨rfl, s1⟩ := hu
    exact ⟨y, by unfold fX10_sheet_L54; simp (disch := omega) only [Option.bind_some, aI_n, aL_n, aQ_n, sA_n, sL_n, csA_n, i_0, i_1, i_2, i_3, i_4, i_5, i_6, i_7, i_8, i_9, i_10, i_11, i_12, i_13, i_16, i_20, i_21, i_22, i_31, i_99, i_100, i_256, i_1000, nI_eq, nI_leI, nI_ltI, nI_add, pk_mul, ↓reduceIte, nt_le, nf_le, nt_lt, nf_lt, nt_eq, nf_eq, meet_N', meet_P', meet_S', meet_Z', meet_B', meet_O', n_1, n_2, n_3, n_4, n_5, n_10, n_11], s1⟩
theorem St_sheet_ok : St_sheet Sim := by
  intro o z r a1 a2 a3 h
  obtain ⟨h1, h2, h3⟩ := id h
  unfold fX9_sheet fX9_sheet_J21 fX10_sheet fX10_sheet_J23
  rcases ix a1 (n := 6) (by omega) with hx | ⟨s, hs, rfl⟩
  · exact ⟨(-2, z), (-2, r), by simp (disch := omega) only [isSh9_out hx, Option.bind_some, aI_n, aL_n, aQ_n, sA_n, sL_n, csA_n, i_0, i_1, i_2, i_3, i_4, i_5, i_6, i_7, i_8, i_9, i_10, i_11, i_12, i_13, i_16, i_20, i_21, i_22, i_31, i_99, i_100, i_256, i_1000, nI_eq, nI_leI, nI_ltI, nI_add, pk_mul, ↓reduceIte, nt_le, nf_le, nt_lt, nf_lt, nt_eq, nf_eq, meet_N', meet_P', meet_S', meet_Z', meet_B', meet_O', n_1, n_2, n_3, n_4, n_5, n_10, n_11], by simp (disch := omega) only [isSh10_out hx, Option.bind_some, aI_n, aL_n, aQ_n, sA_n, sL_n, csA_n, i_0, i_1, i_2, i_3, i_4, i_5, i_6, i_7, i_8, i_9, i_10, i_11, i_12, i_13, i_16, i_20, i_21, i_22, i_31, i_99, i_100, i_256, i_1000, nI_eq, nI_leI, nI_ltI, nI_add, pk_mul, ↓reduceIte, nt_le, nf_le, nt_lt, nf_lt, nt_eq, nf_eq, meet_N', meet_P', meet_S', meet_Z', meet_B', meet_O', n_1, n_2, n_3, n_4, n_5, n_10, n_11], rfl, h⟩
  rcases ix a2 (n := 4) (by omega) with hx2 | ⟨k, hk, rfl⟩
  · refine ⟨(-2, z), (-2, r), by simp (disch := omega) only [isSh9_in hs, isSort_out hx2, Option.bind_some, aI_n, aL_n, aQ_n, sA_n, sL_n, csA_n, i_0, i_1, i_2, i_3, i_4, i_5, i_6, i_7, i_8, i_9, i_10, i_11, i_12, i_13, i_16, i_20, i_21, i_22, i_31, i_99, i_100, i_256, i_1000, nI_eq, nI_leI, nI_ltI, nI_add, pk_mul, ↓reduceIte, nt_le, nf_le, nt_lt, nf_lt, nt_eq, nf_eq, meet_N', meet_P', meet_S', meet_Z', meet_B', meet_O', n_1, n_2, n_3, n_4, n_5, n_10, n_11], ?_, rfl, h⟩
    by_cases h0 : a2 < 0
    · simp only [isSh10_in hs, Option.bind_some, if_neg i1n0, if_pos h0]
    · simp only [isSh10_in hs, Option.bind_some, if_neg i1n0, if_neg h0, if_pos (gt3 (hx2.resolve_left h0))]
  by_cases c1 : a3 ≤ nI 256
  · by_cases c0 : nI 0 ≤ a3
    · obtain ⟨n, hn, rfl⟩ : ∃ n : Nat, n ≤ 256 ∧ a3 = nI n := nI_of2 (M := nI 256) rfl (fun q => by have := Int32.lt_iff_toInt_lt.mp q; have := Int32.le_iff_toInt_le.mp c0; have : (nI 0).toInt = 0 := rfl; have : (0 : Int32).toInt = 0 := rfl; omega) c1
      obtain ⟨e, g1, g2, g3, g4, g5⟩ := sheet_lp (r0 := rA (rA r 4 s (nI k)) 5 s (nI n)) hs hn
      refine ⟨(nI n, cQ (zS z k n) 0 s (some (cn z))), (nI n, e), ?_, ?_, rfl, Sim_newsheet h hs (by omega) hn g2 (fun j h4 h5 => ?_) (by rw [g3]; rfl) (by rw [g3]; rfl) g4 (fun t i ht hts hi => g5 _ (by omega))⟩
      · have eS : alS o z = some (cn z, cNw z (.inr (.inr (.inl (0, none))))) := by unfold alS; rw [if_pos h1.1]
        have okk : okS (zS z k n) (some (cn z)) = true := by
          show (dS (zS z k n) (cn z)).isSome = true
          rw [(zS_sh h1 (by omega) hn).1]; rfl
        simp (disch := omega) only [isSh9_in hs, isSort_in hk, c0, c1, eS, Option.bind_some, aI_n, aL_n, aQ_n, sA_n, sL_n, csA_n, i_0, i_1, i_2, i_3, i_4, i_5, i_6, i_7, i_8, i_9, i_10, i_11, i_12, i_13, i_16, i_20, i_21, i_22, i_31, i_99, i_100, i_256, i_1000, nI_eq, nI_leI, nI_ltI, nI_add, pk_mul, ↓reduceIte, nt_le, nf_le, nt_lt, nf_lt, nt_eq, nf_eq, meet_N', meet_P', meet_S', meet_Z', meet_B', meet_O', n_1, n_2, n_3, n_4, n_5, n_10, n_11]
        rw [← i_0, init7_n h1 hn, Option.bind_some, stQS_n hs okk]; rfl
      · simp (disch := omega) only [isSh10_in hs, c0, c1, Option.bind_some, aI_n, aL_n, aQ_n, sA_n, sL_n, csA_n, i_0, i_1, i_2, i_3, i_4, i_5, i_6, i_7, i_8, i_9, i_10, i_11, i_12, i_13, i_16, i_20, i_21, i_22, i_31, i_99, i_100, i_256, i_1000, nI_eq, nI_leI, nI_ltI, nI_add, pk_mul, ↓reduceIte, nt_le, nf_le, nt_lt, nf_lt, nt_eq, nf_eq, meet_N', meet_P', meet_S', meet_Z', meet_B', meet_O', n_1, n_2, n_3, n_4, n_5, n_10, n_11]
        exact congrArg (fun u => u.bind fun e9 => some (nI n, e9)) g1
      · rw [g3]; simp only [rA_A, if_neg h4, if_neg h5]
    · refine ⟨(-13, _), (-13, _), ?_, ?_, rfl, Sim_met h⟩
      · simp (disch := omega) only [isSh9_in hs, isSort_in hk, c1, c0, counted_n, Option.bind_some, aI_n, aL_n, aQ_n, sA_n, sL_n, csA_n, i_0, i_1, i_2, i_3, i_4, i_5, i_6, i_7, i_8, i_9, i_10, i_11, i_12, i_13, i_16, i_20, i_21, i_22, i_31, i_99, i_100, i_256, i_1000, nI_eq, nI_leI, nI_ltI, nI_add, pk_mul, ↓reduceIte, nt_le, nf_le, nt_lt, nf_lt, nt_eq, nf_eq, meet_N', meet_P', meet_S', meet_Z', meet_B', meet_O', n_1, n_2, n_3, n_4, n_5, n_10, n_11] <;> rfl
      · simp (disch := omega) only [isSh10_in hs, c1, c0, Option.bind_some, aI_n, aL_n, aQ_n, sA_n, sL_n, csA_n, i_0, i_1, i_2, i_3, i_4, i_5, i_6, i_7, i_8, i_9, i_10, i_11, i_12, i_13, i_16, i_20, i_21, i_22, i_31, i_99, i_100, i_256, i_1000, nI_eq, nI_leI, nI_ltI, nI_add, pk_mul, ↓reduceIte, nt_le, nf_le, nt_lt, nf_lt, nt_eq, nf_eq, meet_N', meet_P', meet_S', meet_Z', meet_B', meet_O', n_1, n_2, n_3, n_4, n_5, n_10, n_11] <;> rfl
  · exact ⟨(-2, z), (-2, r), by simp (disch := omega) only [isSh9_in hs, isSort_in hk, c1, Option.bind_some, aI_n, aL_n, aQ_n, sA_n, sL_n, csA_n, i_0, i_1, i_2, i_3, i_4, i_5, i_6, i_7, i_8, i_9, i_10, i_11, i_12, i_13, i_16, i_20, i_21, i_22, i_31, i_99, i_100, i_256, i_1000, nI_eq, nI_leI, nI_ltI, nI_add, pk_mul, ↓reduceIte, nt_le, nf_le, nt_lt, nf_lt, nt_eq, nf_eq, meet_N', meet_P', meet_S', meet_Z', meet_B', meet_O', n_1, n_2, n_3, n_4, n_5, n_10, n_11], by simp (disch := omega) only [isSh10_in hs, c1, Option.bind_some, aI_n, aL_n, aQ_n, sA_n, sL_n, csA_n, i_0, i_1, i_2, i_3, i_4, i_5, i_6, i_7, i_8, i_9, i_10, i_11, i_12, i_13, i_16, i_20, i_21, i_22, i_31, i_99, i_100, i_256, i_1000, nI_eq, nI_leI, nI_ltI, nI_add, pk_mul, ↓reduceIte, nt_le, nf_le, nt_lt, nf_lt, nt_eq, nf_eq, meet_N', meet_P', meet_S', meet_Z', meet_B', meet_O', n_1, n_2, n_3, n_4, n_5, n_10, n_11], rfl, h⟩
/-! copy -/
theorem room_n {o : Nat} {z : CS} {q k n b : Nat} {x y : Int32} (d1 : dS z q = some (nI k, some b)) (d3 : lnL z b = some (nI n)) (hn : n ≤ 256) : (fX9_hasRoom o z q x y = some 0 ∧ ∀ (r : RS) (s : Nat), s < 6 → r.2.1 5 s = nI n → fX10_hasPart r (nI s) x y = some 0) ∨ ∃ i m, x = nI i ∧ y = nI m ∧ i + m ≤ n ∧ fX9_hasRoom o z q x y = some 1 ∧ ∀ (r : RS) (s : Nat), s < 6 → r.2.1 5 s = nI n → fX10_hasPart r (nI s) x y = some 1 := by
  unfold fX9_hasRoom fX9_hasRoom_J32 fX10_hasPart fX10_hasPart_J34
  by_cases hx0 : x < 0
  · exact Or.inl ⟨by rw [if_pos hx0], fun _ _ _ _ => by rw [if_pos hx0]⟩
  by_cases hy0 : y < 0
  · exact Or.inl ⟨by rw [if_neg hx0, if_pos hy0], fun _ _ _ _ => by rw [if_neg hx0, if_pos hy0]⟩
  obtain ⟨i, hi, rfl⟩ := nI_of hx0
  obtain ⟨m, hm, rfl⟩ := nI_of hy0
  by_cases c1 : n < m
  · left
    refine ⟨by simp (disch := omega) only [d1, d3, Option.bind_some, aI_n, aL_n, aQ_n, sA_n, sL_n, csA_n, i_0, i_1, i_2, i_3, i_4, i_5, i_6, i_7, i_8, i_9, i_10, i_11, i_12, i_13, i_16, i_20, i_21, i_22, i_31, i_99, i_100, i_256, i_1000, nI_eq, nI_leI, nI_ltI, nI_add, pk_mul, ↓reduceIte, nt_le, nf_le, nt_lt, nf_lt, nt_eq, nf_eq, meet_N', meet_P', meet_S', meet_Z', meet_B', meet_O', n_1, n_2, n_3, n_4, n_5, n_10, n_11], fun r s hs hr => by simp (disch := omega) only [hr, Option.bind_some, aI_n, aL_n, aQ_n, sA_n, sL_n, csA_n, i_0, i_1, i_2, i_3, i_4, i_5, i_6, i_7, i_8, i_9, i_10, i_11, i_12, i_13, i_16, i_20, i_21, i_22, i_31, i_99, i_100, i_256, i_1000, nI_eq, nI_leI, nI_ltI, nI_add, pk_mul, ↓reduceIte, nt_le, nf_le, nt_lt, nf_lt, nt_eq, nf_eq, meet_N', meet_P', meet_S', meet_Z', meet_B', meet_O', n_1, n_2, n_3, n_4, n_5, n_10, n_11]⟩
  · by_cases c2 : n - m < i
    · left
      refine ⟨by simp (disch := omega) only [d1, d3, pk_sub, Option.bind_some, aI_n, aL_n, aQ_n, sA_n, sL_n, csA_n, i_0, i_1, i_2, i_3, i_4, i_5, i_6, i_7, i_8, i_9, i_10, i_11, i_12, i_13, i_16, i_20, i_21, i_22, i_31, i_99, i_100, i_256, i_1000, nI_eq, nI_leI, nI_ltI, nI_add, pk_mul, ↓reduceIte, nt_le, nf_le, nt_lt, nf_lt, nt_eq, nf_eq, meet_N', meet_P', meet_S', meet_Z', meet_B', meet_O', n_1, n_2, n_3, n_4, n_5, n_10, n_11], fun r s hs hr => by simp (disch := omega) only [hr, pk_sub, Option.bind_some, aI_n, aL_n, aQ_n, sA_n, sL_n, csA_n, i_0, i_1, i_2, i_3, i_4, i_5, i_6, i_7, i_8, i_9, i_10, i_11, i_12, i_13, i_16, i_20, i_21, i_22, i_31, i_99, i_100, i_256, i_1000, nI_eq, nI_leI, nI_ltI, nI_add, pk_mul, ↓reduceIte, nt_le, nf_le, nt_lt, nf_lt, nt_eq, nf_eq, meet_N', meet_P', meet_S', meet_Z', meet_B', meet_O', n_1, n_2, n_3, n_4, n_5, n_10, n_11]⟩
    · right
      refine ⟨i, m, rfl, rfl, by omega, by simp (disch := omega) only [d1, d3, pk_sub, Option.bind_some, aI_n, aL_n, aQ_n, sA_n, sL_n, csA_n, i_0, i_1, i_2, i_3, i_4, i_5, i_6, i_7, i_8, i_9, i_10, i_11, i_12, i_13, i_16, i_20, i_21, i_22, i_31, i_99, i_100, i_256, i_1000, nI_eq, nI_leI, nI_ltI, nI_add, pk_mul, ↓reduceIte, nt_le, nf_le, nt_lt, nf_lt, nt_eq, nf_eq, meet_N', meet_P', meet_S', meet_Z', meet_B', meet_O', n_1, n_2, n_3, n_4, n_5, n_10, n_11], fun r s hs hr => by simp (disch := omega) only [hr, pk_sub, Option.bind_some, aI_n, aL_n, aQ_n, sA_n, sL_n, csA_n, i_0, i_1, i_2, i_3, i_4, i_5, i_6, i_7, i_8, i_9, i_10, i_11, i_12, i_13, i_16, i_20, i_21, i_22, i_31, i_99, i_100, i_256, i_1000, nI_eq, nI_leI, nI_ltI, nI_add, pk_mul, ↓reduceIte, nt_le, nf_le, nt_lt, nf_lt, nt_eq, nf_eq, meet_N', meet_P', meet_S', meet_Z', meet_B', meet_O', n_1, n_2, n_3, n_4, n_5, n_10, n_11]⟩
theorem copy_lp1 {r : RS} {s t i j m : Nat} (hs : s < 6) (hi : i + m ≤ 256) : ∃ e, lpN (fun u => fX10_copy_L97 u.2 (nI s) (nI i) (nI t) (nI j) (nI m) u.1) bigN (nI 0, r) = some e ∧ (e.1 = r.1 ∧ e.2.1 = r.2.1 ∧ e.2.2 6 = r.2.2 6 ∧ ∀ x, x < m → e.2.2 8 x = r.2.2 6 (256 * s + i + x)) := by
  refine lp_count (fun c u => u.1 = nI c ∧ u.2.1 = r.1 ∧ u.2.2.1 = r.2.1 ∧ u.2.2.2 6 = r.2.2 6 ∧ ∀ x, x < c → u.2.2.2 8 x = r.2.2 6 (256 * s + i + x)) m _ (bigN_gt (by omega)) (fun c u hc hu => ?_) (fun u hu => ?_) ⟨rfl, rfl, rfl, rfl, fun x hx => by omega⟩
  · obtain ⟨l, y⟩ := u
    obtain ⟨rfl, s1, s2, s3, s4⟩ := hu
    simp only at s1 s2 s3 s4
    refine ⟨(nI (c + 1), rL y 8 c (r.2.2 6 (256 * s + i + c))), ?_, rfl, s1, s2, s3, fun x hx => ?_⟩
    · unfold fX10_copy_L97
      simp (disch := omega) only [s3, Option.bind_some, aI_n, aL_n, aQ_n, sA_n, sL_n, csA_n, i_0, i_1, i_2, i_3, i_4, i_5, i_6, i_7, i_8, i_9, i_10, i_11, i_12, i_13, i_16, i_20, i_21, i_22, i_31, i_99, i_100, i_256, i_1000, nI_eq, nI_leI, nI_ltI, nI_add, pk_mul, ↓reduceIte, nt_le, nf_le, nt_lt, nf_lt, nt_eq, nf_eq, meet_N', meet_P', meet_S', meet_Z', meet_B', meet_O', n_1, n_2, n_3, n_4, n_5, n_10, n_11]
    · show vp_updL (y.2.2 8) c _ x = _
      by_cases hxi : x = c
      · subst hxi; rw [pk_uLs]
      · rw [pk_uLn (by omega)]; exact s4 x (by omega)
  · obtain ⟨l, y⟩ := u
    obtain ⟨rfl, s1⟩ := hu
    exact ⟨y, by unfold fX10_copy_L97; simp (disch := omega) only [Option.bind_some, aI_n, aL_n, aQ_n, sA_n, sL_n, csA_n, i_0, i_1, i_2, i_3, i_4, i_5, i_6, i_7, i_8, i_9, i_10, i_11, i_12, i_13, i_16, i_20, i_21, i_22, i_31, i_99, i_100, i_256, i_1000, nI_eq, nI_leI, nI_ltI, nI_add, pk_mul, ↓reduceIte, nt_le, nf_le, nt_lt, nf_lt, nt_eq, nf_eq, meet_N', meet_P', meet_S', meet_Z', meet_B', meet_O', n_1, n_2, n_3, n_4, n_5, n_10, n_11], s1⟩
theorem copy_lp2 {r : RS} {t j m : Nat} (ht : t < 6) (hj : j + m ≤ 256) : ∃ e, lpN (fun u => fX10_copy_L135 u.2 (nI t) (nI j) (nI m) u.1) bigN (nI 0, r) = some e ∧ (e.1 = r.1 ∧ e.2.1 = r.2.1 ∧ (∀ x, x < m → e.2.2 6 (256 * t + j + x) = r.2.2 8 x) ∧ ∀ w, ¬ (256 * t + j ≤ w ∧ w < 256 * t + j + m) → e.2.2 6 w = r.2.2 6 w) := by
  refine lp_count (fun c u => u.1 = nI c ∧ u.2.1 = r.1 ∧ u.2.2.1 = r.2.1 ∧ u.2.2.2 8 = r.2.2 8 ∧ (∀ x, x < c → u.2.2.2 6 (256 * t + j + x) = r.2.2 8 x) ∧ ∀ w, ¬ (256 * t + j ≤ w ∧ w < 256 * t + j + c) → u.2.2.2 6 w = r.2.2 6 w) m _ (bigN_gt (by omega)) (fun c u hc hu => ?_) (fun u hu => ?_) ⟨rfl, rfl, rfl, rfl, fun x hx => by omega, fun _ _ => rfl⟩
  · obtain ⟨l, y⟩ := u
    obtain ⟨rfl, s1, s2, s3, s4, s5⟩ := hu
    simp only at s1 s2 s3 s4 s5
    refine ⟨(nI (c + 1), rL y 6 (256 * t + j + c) (r.2.2 8 c)), ?_, rfl, s1, s2, s3, fun x hx => ?_, fun w hw => ?_⟩
    · unfold fX10_copy_L135
      simp (disch := omega) only [s3, Option.bind_some, aI_n, aL_n, aQ_n, sA_n, sL_n, csA_n, i_0, i_1, i_2, i_3, i_4, i_5, i_6, i_7, i_8, i_9, i_10, i_11, i_12, i_13, i_16, i_20, i_21, i_22, i_31, i_99, i_100, i_256, i_1000, nI_eq, nI_leI, nI_ltI, nI_add, pk_mul, ↓reduceIte, nt_le, nf_le, nt_lt, nf_lt, nt_eq, nf_eq, meet_N', meet_P', meet_S', meet_Z', meet_B', meet_O', n_1, n_2, n_3, n_4, n_5, n_10, n_11]
    · show vp_updL (y.2.2 6) (256 * t + j + c) _ (256 * t + j + x) = _
      by_cases hxi : x = c
      · subst hxi; rw [pk_uLs]
      · rw [pk_uLn (by omega)]; exact s4 x (by omega)
    · show vp_updL (y.2.2 6) (256 * t + j + c) _ w = _
      rw [pk_uLn (by omega)]; exact s5 w (by omega)
  · obtain ⟨l, y⟩ := u
    obtain ⟨rfl, s1, s2, s3, s4, s5⟩ := hu
    exact ⟨y, by unfold fX10_copy_L135; simp (disch := omega) only [Option.bind_some, aI_n, aL_n, aQ_n, sA_n, sL_n, csA_n, i_0, i_1, i_2, i_3, i_4, i_5, i_6, i_7, i_8, i_9, i_10, i_11, i_12, i_13, i_16, i_20, i_21, i_22, i_31, i_99, i_100, i_256, i_1000, nI_eq, nI_leI, nI_ltI, nI_add, pk_mul, ↓reduceIte, nt_le, nf_le, nt_lt, nf_lt, nt_eq, nf_eq, meet_N', meet_P', meet_S', meet_Z', meet_B', meet_O', n_1, n_2, n_3, n_4, n_5, n_10, n_11], s1, s2, s4, s5⟩
theorem St_copy_ok : St_copy Sim := by
  intro o z r a1 a2 a3 a4 a5 h
  obtain ⟨h1, h2, h3⟩ := id h
  unfold fX9_copy fX9_copy_J14 fX9_copy_J43 fX9_copy_J93 fX10_copy fX10_copy_J14 fX10_copy_J35 fX10_copy_J87
  rcases ix a1 (n := 6) (by omega) with hx | ⟨s0, hs0, e0⟩
  · exact ⟨(-2, z), (-2, r), by simp (disch := omega) only [isSh9_out hx, Option.bind_some, aI_n, aL_n, aQ_n, sA_n, sL_n, csA_n, i_0, i_1, i_2, i_3, i_4, i_5, i_6, i_7, i_8, i_9, i_10, i_11, i_12, i_13, i_16, i_20, i_21, i_22, i_31, i_99, i_100, i_256, i_1000, nI_eq, nI_leI, nI_ltI, nI_add, pk_mul, ↓reduceIte, nt_le, nf_le, nt_lt, nf_lt, nt_eq, nf_eq, meet_N', meet_P', meet_S', meet_Z', meet_B', meet_O', n_1, n_2, n_3, n_4, n_5, n_10, n_11], by simp (disch := omega) only [isSh10_out hx, Option.bind_some, aI_n, aL_n, aQ_n, sA_n, sL_n, csA_n, i_0, i_1, i_2, i_3, i_4, i_5, i_6, i_7, i_8, i_9, i_10, i_11, i_12, i_13, i_16, i_20, i_21, i_22, i_31, i_99, i_100, i_256, i_1000, nI_eq, nI_leI, nI_ltI, nI_add, pk_mul, ↓reduceIte, nt_le, nf_le, nt_lt, nf_lt, nt_eq, nf_eq, meet_N', meet_P', meet_S', meet_Z', meet_B', meet_O', n_1, n_2, n_3, n_4, n_5, n_10, n_11], rfl, h⟩
  rcases shc h2 a3 with hx | ht
  · subst e0
    exact ⟨(-2, z), (-2, r), by simp (disch := omega) only [isSh9_in hs0, isSh9_out hx, Option.bind_some, aI_n, aL_n, aQ_n, sA_n, sL_n, csA_n, i_0, i_1, i_2, i_3, i_4, i_5, i_6, i_7, i_8, i_9, i_10, i_11, i_12, i_13, i_16, i_20, i_21, i_22, i_31, i_99, i_100, i_256, i_1000, nI_eq, nI_leI, nI_ltI, nI_add, pk_mul, ↓reduceIte, nt_le, nf_le, nt_lt, nf_lt, nt_eq, nf_eq, meet_N', meet_P', meet_S', meet_Z', meet_B', meet_O', n_1, n_2, n_3, n_4, n_5, n_10, n_11], by simp (disch := omega) only [isSh10_in hs0, isSh10_out hx, Option.bind_some, aI_n, aL_n, aQ_n, sA_n, sL_n, csA_n, i_0, i_1, i_2, i_3, i_4, i_5, i_6, i_7, i_8, i_9, i_10, i_11, i_12, i_13, i_16, i_20, i_21, i_22, i_31, i_99, i_100, i_256, i_1000, nI_eq, nI_leI, nI_ltI, nI_add, pk_mul, ↓reduceIte, nt_le, nf_le, nt_lt, nf_lt, nt_eq, nf_eq, meet_N', meet_P', meet_S', meet_Z', meet_B', meet_O', n_1, n_2, n_3, n_4, n_5, n_10, n_11], rfl, h⟩
  obtain ⟨t0, ht0, e1⟩ : ∃ t, t < 6 ∧ a3 = nI t := by
    rcases ht with ⟨t, ht, e, _⟩ | ⟨t, q, k, n, b, f, ht, e, _⟩
    · exact ⟨t, ht, e⟩
    · exact ⟨t, ht, e⟩
  rcases shc h2 a1 with hx | ⟨s, hs, e2, e, e'⟩ | ⟨s, q, k, n, b, f, hs, e2, e, sa, d1, d2, k3, n8, d3, d4, r4, r5, r6⟩
  · subst e0
    rcases hx with hx | hx
    · exact absurd hx (nI_nlt0 (by omega))
    · exact absurd hx (nI_ge hs0 (by omega))
  · subst e1 e2
    refine ⟨(-10, _), (-10, _), ?_, ?_, rfl, Sim_met h⟩
    · simp (disch := omega) only [isSh9_in hs, isSh9_in ht0, e, counted_n, qc, Option.bind_some, aI_n, aL_n, aQ_n, sA_n, sL_n, csA_n, i_0, i_1, i_2, i_3, i_4, i_5, i_6, i_7, i_8, i_9, i_10, i_11, i_12, i_13, i_16, i_20, i_21, i_22, i_31, i_99, i_100, i_256, i_1000, nI_eq, nI_leI, nI_ltI, nI_add, pk_mul, ↓reduceIte, nt_le, nf_le, nt_lt, nf_lt, nt_eq, nf_eq, meet_N', meet_P', meet_S', meet_Z', meet_B', meet_O', n_1, n_2, n_3, n_4, n_5, n_10, n_11] <;> rfl
    · simp (disch := omega) only [isSh10_in hs, isSh10_in ht0, e', Option.bind_some, aI_n, aL_n, aQ_n, sA_n, sL_n, csA_n, i_0, i_1, i_2, i_3, i_4, i_5, i_6, i_7, i_8, i_9, i_10, i_11, i_12, i_13, i_16, i_20, i_21, i_22, i_31, i_99, i_100, i_256, i_1000, nI_eq, nI_leI, nI_ltI, nI_add, pk_mul, ↓reduceIte, nt_le, nf_le, nt_lt, nf_lt, nt_eq, nf_eq, meet_N', meet_P', meet_S', meet_Z', meet_B', meet_O', n_1, n_2, n_3, n_4, n_5, n_10, n_11] <;> rfl
  · subst e2
    rcases ht with ⟨t, ht, rfl, et, et'⟩ | ⟨t, q2, k2, n2, b2, f2, ht, rfl, e3, sa2, d12, d22, k32, n82, d32, d42, r42, r52, r62⟩
    · refine ⟨(-10, _), (-10, _), ?_, ?_, rfl, Sim_met h⟩
      · simp (disch := omega) only [isSh9_in hs, isSh9_in ht, e, et, counted_n, qc, Option.bind_some, aI_n, aL_n, aQ_n, sA_n, sL_n, csA_n, i_0, i_1, i_2, i_3, i_4, i_5, i_6, i_7, i_8, i_9, i_10, i_11, i_12, i_13, i_16, i_20, i_21, i_22, i_31, i_99, i_100, i_256, i_1000, nI_eq, nI_leI, nI_ltI, nI_add, pk_mul, ↓reduceIte, nt_le, nf_le, nt_lt, nf_lt, nt_eq, nf_eq, meet_N', meet_P', meet_S', meet_Z', meet_B', meet_O', n_1, n_2, n_3, n_4, n_5, n_10, n_11] <;> rfl
      · simp (disch := omega) only [isSh10_in hs, isSh10_in ht, r5, et', Option.bind_some, aI_n, aL_n, aQ_n, sA_n, sL_n, csA_n, i_0, i_1, i_2, i_3, i_4, i_5, i_6, i_7, i_8, i_9, i_10, i_11, i_12, i_13, i_16, i_20, i_21, i_22, i_31, i_99, i_100, i_256, i_1000, nI_eq, nI_leI, nI_ltI, nI_add, pk_mul, ↓reduceIte, nt_le, nf_le, nt_lt, nf_lt, nt_eq, nf_eq, meet_N', meet_P', meet_S', meet_Z', meet_B', meet_O', n_1, n_2, n_3, n_4, n_5, n_10, n_11] <;> rfl
    · by_cases hkk : k = k2
      · subst hkk
        rcases room_n (o := o) (x := a2) (y := a5) d1 d3 n8 with ⟨m1, m2⟩ | ⟨i, m, rfl, rfl, him, m1, m2⟩
        · refine ⟨(-11, _), (-11, _), ?_, ?_, rfl, Sim_met h⟩
          · simp (disch := omega) only [isSh9_in hs, isSh9_in ht, e, e3, d1, d12, counted_n, qc, m1, Option.bind_some, aI_n, aL_n, aQ_n, sA_n, sL_n, csA_n, i_0, i_1, i_2, i_3, i_4, i_5, i_6, i_7, i_8, i_9, i_10, i_11, i_12, i_13, i_16, i_20, i_21, i_22, i_31, i_99, i_100, i_256, i_1000, nI_eq, nI_leI, nI_ltI, nI_add, pk_mul, ↓reduceIte, nt_le, nf_le, nt_lt, nf_lt, nt_eq, nf_eq, meet_N', meet_P', meet_S', meet_Z', meet_B', meet_O', n_1, n_2, n_3, n_4, n_5, n_10, n_11] <;> rfl
          · simp (disch := omega) only [isSh10_in hs, isSh10_in ht, r5, r52, r4, r42, m2 r s hs r5, Option.bind_some, aI_n, aL_n, aQ_n, sA_n, sL_n, csA_n, i_0, i_1, i_2, i_3, i_4, i_5, i_6, i_7, i_8, i_9, i_10, i_11, i_12, i_13, i_16, i_20, i_21, i_22, i_31, i_99, i_100, i_256, i_1000, nI_eq, nI_leI, nI_ltI, nI_add, pk_mul, ↓reduceIte, nt_le, nf_le, nt_lt, nf_lt, nt_eq, nf_eq, meet_N', meet_P', meet_S', meet_Z', meet_B', meet_O', n_1, n_2, n_3, n_4, n_5, n_10, n_11] <;> rfl
        · rcases room_n (o := o) (x := a4) (y := nI m) d12 d32 n82 with ⟨m3, m4⟩ | ⟨j, m', rfl, hmm, hjm, m3, m4⟩
          · refine ⟨(-11, _), (-11, _), ?_, ?_, rfl, Sim_met h⟩
            · simp (disch := omega) only [isSh9_in hs, isSh9_in ht, e, e3, d1, d12, counted_n, qc, m1, m3, Option.bind_some, aI_n, aL_n, aQ_n, sA_n, sL_n, csA_n, i_0, i_1, i_2, i_3, i_4, i_5, i_6, i_7, i_8, i_9, i_10, i_11, i_12, i_13, i_16, i_20, i_21, i_22, i_31, i_99, i_100, i_256, i_1000, nI_eq, nI_leI, nI_ltI, nI_add, pk_mul, ↓reduceIte, nt_le, nf_le, nt_lt, nf_lt, nt_eq, nf_eq, meet_N', meet_P', meet_S', meet_Z', meet_B', meet_O', n_1, n_2, n_3, n_4, n_5, n_10, n_11] <;> rfl
            · simp (disch := omega) only [isSh10_in hs, isSh10_in ht, r5, r52, r4, r42, m2 r s hs r5, m4 r t ht r52, Option.bind_some, aI_n, aL_n, aQ_n, sA_n, sL_n, csA_n, i_0, i_1, i_2, i_3, i_4, i_5, i_6, i_7, i_8, i_9, i_10, i_11, i_12, i_13, i_16, i_20, i_21, i_22, i_31, i_99, i_100, i_256, i_1000, nI_eq, nI_leI, nI_ltI, nI_add, pk_mul, ↓reduceIte, nt_le, nf_le, nt_lt, nf_lt, nt_eq, nf_eq, meet_N', meet_P', meet_S', meet_Z', meet_B', meet_O', n_1, n_2, n_3, n_4, n_5, n_10, n_11] <;> rfl
          · have : m = m' := (nI_eq (by omega) (by omega)).mp hmm
            subst this
            obtain ⟨w1, g1, g2, g3, g4, g5⟩ := copy_lp1 (r := r) (t := t) (j := j) hs (show i + m ≤ 256 by omega)
            obtain ⟨w2, g6, g7, g8, g9, g10⟩ := copy_lp2 (r := w1) ht (show j + m ≤ 256 by omega)
            have hb2 := (h1.2 _ _ (dL_s d22)).1
            have hc : cpL o z b (nI i) b2 (nI j) (nI m) = some (cD z b2 (.inr (.inr (.inr (n2, va_cpy f f2 i j m))))) := by
              unfold cpL
              rw [d2, Option.bind_some, d22, Option.bind_some, nI_clamp (by omega), nI_clamp (by omega), nI_clamp (by omega), nI_toInt (by omega), nI_toInt (by omega), nI_toInt (by omega), if_pos ⟨⟨by omega, by omega, by omega⟩, him, hjm, hb2⟩]
            refine ⟨(nI m, cD z b2 (.inr (.inr (.inr (n2, va_cpy f f2 i j m))))), (nI m, w2), ?_, ?_, rfl, Sim_row h ht e3 sa2 (g7.trans g2) (g8.trans g3) (fun x hx => ?_) (fun t' x ht' hne hx => ?_)⟩
            · simp (disch := omega) only [isSh9_in hs, isSh9_in ht, e, e3, d1, d12, counted_n, qc, m1, m3, hc, Option.bind_some, aI_n, aL_n, aQ_n, sA_n, sL_n, csA_n, i_0, i_1, i_2, i_3, i_4, i_5, i_6, i_7, i_8, i_9, i_10, i_11, i_12, i_13, i_16, i_20, i_21, i_22, i_31, i_99, i_100, i_256, i_1000, nI_eq, nI_leI, nI_ltI, nI_add, pk_mul, ↓reduceIte, nt_le, nf_le, nt_lt, nf_lt, nt_eq, nf_eq, meet_N', meet_P', meet_S', meet_Z', meet_B', meet_O', n_1, n_2, n_3, n_4, n_5, n_10, n_11]
            · simp (disch := omega) only [isSh10_in hs, isSh10_in ht, r5, r52, r4, r42, m2 r s hs r5, m4 r t ht r52, g1, g6, Option.bind_some, aI_n, aL_n, aQ_n, sA_n, sL_n, csA_n, i_0, i_1, i_2, i_3, i_4, i_5, i_6, i_7, i_8, i_9, i_10, i_11, i_12, i_13, i_16, i_20, i_21, i_22, i_31, i_99, i_100, i_256, i_1000, nI_eq, nI_leI, nI_ltI, nI_add, pk_mul, ↓reduceIte, nt_le, nf_le, nt_lt, nf_lt, nt_eq, nf_eq, meet_N', meet_P', meet_S', meet_Z', meet_B', meet_O', n_1, n_2, n_3, n_4, n_5, n_10, n_11]
            · by_cases hj : j ≤ x ∧ x < j + m
              · rw [pk_cpy_in hj.1 hj.2, ← r6 (i + (x - j)) (by omega), show 256 * t + x = 256 * t + j + (x - j) by omega, g9 (x - j) (by omega), g5 (x - j) (by omega)]
                exact congrArg _ (by omega)
              · rw [pk_cpy_out (by omega), g10 _ (by omega), g4]; exact r62 x hx
            · rw [g10 _ (by omega), g4]
      · refine ⟨(-12, _), (-12, _), ?_, ?_, rfl, Sim_met h⟩
        · simp (disch := omega) only [isSh9_in hs, isSh9_in ht, e, e3, d1, d12, counted_n, qc, Option.bind_some, aI_n, aL_n, aQ_n, sA_n, sL_n, csA_n, i_0, i_1, i_2, i_3, i_4, i_5, i_6, i_7, i_8, i_9, i_10, i_11, i_12, i_13, i_16, i_20, i_21, i_22, i_31, i_99, i_100, i_256, i_1000, nI_eq, nI_leI, nI_ltI, nI_add, pk_mul, ↓reduceIte, nt_le, nf_le, nt_lt, nf_lt, nt_eq, nf_eq, meet_N', meet_P', meet_S', meet_Z', meet_B', meet_O', n_1, n_2, n_3, n_4, n_5, n_10, n_11] <;> rfl
        · simp (disch := omega) only [isSh10_in hs, isSh10_in ht, r5, r52, r4, r42, Option.bind_some, aI_n, aL_n, aQ_n, sA_n, sL_n, csA_n, i_0, i_1, i_2, i_3, i_4, i_5, i_6, i_7, i_8, i_9, i_10, i_11, i_12, i_13, i_16, i_20, i_21, i_22, i_31, i_99, i_100, i_256, i_1000, nI_eq, nI_leI, nI_ltI, nI_add, pk_mul, ↓reduceIte, nt_le, nf_le, nt_lt, nf_lt, nt_eq, nf_eq, meet_N', meet_P', meet_S', meet_Z', meet_B', meet_O', n_1, n_2, n_3, n_4, n_5, n_10, n_11] <;> rfl
