/-- two loops that go side by side -/
theorem lp_pair {S1 E1 S2 E2 : Type} {b1 : S1 → Option (S1 ⊕ E1)} {b2 : S2 → Option (S2 ⊕ E2)} (Rel : S1 → S2 → Prop) (μ : S1 → Nat) (XR : E1 → E2 → Prop) (step : ∀ s1 s2, Rel s1 s2 → (∃ t1 t2, b1 s1 = some (.inl t1) ∧ b2 s2 = some (.inl t2) ∧ Rel t1 t2 ∧ μ t1 < μ s1) ∨ (∃ e1 e2, b1 s1 = some (.inr e1) ∧ b2 s2 = some (.inr e2) ∧ XR e1 e2)) : ∀ (n : Nat) (s1 : S1) (s2 : S2), Rel s1 s2 → μ s1 < n → ∃ e1 e2, lpN b1 n s1 = some e1 ∧ lpN b2 n s2 = some e2 ∧ XR e1 e2 := by
  intro n
  induction n with
  | zero => intro s1 s2 _ h; omega
  | succ n ih =>
    intro s1 s2 hR h
    rcases step s1 s2 hR with ⟨t1, t2, h1, h2, h3, h4⟩ | ⟨e1, e2, h1, h2, h3⟩
    · obtain ⟨e1, e2, h5, h6, h7⟩ := ih t1 t2 h3 (by omega)
      exact ⟨e1, e2, by rw [lpN_s h1]; exact h5, by rw [lpN_s h2]; exact h6, h7⟩
    · exact ⟨e1, e2, lpN_e h1, lpN_e h2, h3⟩
theorem St_run_ok : St_run Sim := by
  intro o z r a1 h
  obtain ⟨h1, h2, h3, h4, h5, h6, h7, ⟨N, N1, N2, N3, N4, N5⟩, h9, h10, h11, h12, h13⟩ := id h
  by_cases hN : N = 0
  · subst hN
    exact ⟨-2, -2, by unfold fX9_run fX9_run_J21; rw [N2, if_pos (by rfl)], by unfold fX10_run fX10_run_J18; rw [N3, if_pos (by rfl)], rfl, h⟩
  rcases ix a1 (n := 256) (by omega) with hx | ⟨x, hx, rfl⟩
  · refine ⟨-2, -2, ?_, ?_, rfl, h⟩
    · unfold fX9_run fX9_run_J21
      rw [N2, if_neg (nI_n0 (by omega) (by omega))]
      by_cases h0 : a1 < 0
      · rw [if_pos h0]
      · rw [if_neg h0, if_neg (show ¬ a1 < (256 : Int32) from ge_nlt (N := 256) (by omega) (hx.resolve_left h0))]
    · unfold fX10_run fX10_run_J18
      rw [N3, if_neg (nI_n0 (by omega) (by omega))]
      by_cases h0 : a1 < 0
      · rw [if_pos h0]
      · rw [if_neg h0, if_neg (show ¬ a1 < (256 : Int32) from ge_nlt (N := 256) (by omega) (hx.resolve_left h0))]
  · have hlp : ∃ e1 e2, lpN (fun u => fX5_walk_8_L4 o z (nI x) u.1 u.2) bigN ((0 : Int32), (0 : Int32)) = some e1 ∧ lpN (fun u => fX10_run_L23 r (nI x) u) bigN (0 : Int32) = some e2 ∧ ∃ k l s, k < N ∧ e1 = (nI k, nI l) ∧ e2 = nI k ∧ z.2.1 3 k = nI s ∧ r.2.1 16 k = nI s ∧ r.2.1 17 k = nI l ∧ 20 ≤ s ∧ s ≤ 22 ∧ l ≤ 8 := by
      refine lp_pair (fun s1 s2 => ∃ k l, k < N ∧ s1 = (nI k, nI l) ∧ s2 = nI k ∧ z.2.1 4 k = nI l ∧ l ≤ k ∧ l ≤ 9) (fun s1 => N - s1.1.toNatClampNeg) _ (fun s1 s2 hs => ?_) bigN _ _ ⟨0, 0, by omega, rfl, rfl, N4 (by omega), by omega, by omega⟩ (by show N - _ < 1000000000; omega)
      obtain ⟨k, l, hk, rfl, rfl, hl, hlk, hl9⟩ := hs
      obtain ⟨s, d, e1, e2, e3, e4, e5, e6⟩ := N5 k hk
      have hdl : d = l := (nI_eq (by omega) (by omega)).mp (e3.symm.trans hl)
      subst hdl
      show (∃ t1 t2, fX5_walk_8_L4 o z (nI x) (nI k) (nI d) = _ ∧ fX10_run_L23 r (nI x) (nI k) = _ ∧ _) ∨ (∃ t1 t2, fX5_walk_8_L4 o z (nI x) (nI k) (nI d) = _ ∧ fX10_run_L23 r (nI x) (nI k) = _ ∧ _)
      unfold fX5_walk_8_L4 fX10_run_L23 fX10_run_L23_J62
      rw [N2, if_neg (nI_ge (show d < N by omega) (by omega)), aI_n _ (show k < 512 by omega) (by omega), Option.bind_some, e2, aI_n _ (show k < 511 by omega) (by omega)]
      rcases e6 with ⟨s8, z1, m, m1, m2, m3, m4, m5, m6⟩ | ⟨s20, s22, z1, z2⟩
      · rw [isLook8 (by omega) e1 (by omega), Option.bind_some, if_neg (show ¬ 20 ≤ s by omega), if_neg i1n0, Option.bind_some, e1, if_neg (show ¬ (20 : Int32) ≤ nI s from nI_ge (b := 20) (by omega) (by omega)), Option.bind_some]
        unfold fX5_branch_8
        left
        by_cases hb : nI x >>> (nI s &&& 31) &&& (1 : Int32) = 0
        · rw [if_pos hb, Option.bind_some, if_pos hb, aI_n _ (show k < 512 by omega) (by omega), Option.bind_some, z1]
          refine ⟨_, _, rfl, rfl, ⟨k + 1, d + 1, by omega, by rw [show nI k + (1 : Int32) = nI (k + 1) from nI_1 k, show nI d + (1 : Int32) = nI (d + 1) from nI_1 d], rfl, m5, by omega, by omega⟩, ?_⟩
          show N - (nI k + 1).toNatClampNeg < N - (nI k).toNatClampNeg
          rw [show nI k + (1 : Int32) = nI (k + 1) from nI_1 k, nI_clamp (by omega), nI_clamp (by omega)]
          omega
        · rw [if_neg hb, show nI k + (1 : Int32) = nI (k + 1) from nI_1 k, aI_n _ (show k + 1 < 511 by omega) (by omega), Option.bind_some, m3, Option.bind_some, if_neg hb, aI_n _ (show k < 512 by omega) (by omega), Option.bind_some, m4]
          refine ⟨_, _, rfl, rfl, ⟨m, d + 1, by omega, by rw [show nI d + (1 : Int32) = nI (d + 1) from nI_1 d], rfl, m6, by omega, by omega⟩, ?_⟩
          show N - (nI m).toNatClampNeg < N - (nI k).toNatClampNeg
          rw [nI_clamp (by omega), nI_clamp (by omega)]
          omega
      · rw [isLook8 (by omega) e1 (by omega), Option.bind_some, if_pos s20, if_pos rfl, if_pos (show (20 : Int32) ≤ nI s from nI_le (a := 20) s20 (by omega))]
        right
        exact ⟨_, _, rfl, rfl, k, d, s, hk, rfl, rfl, e1, e2, e4, s20, s22, e5⟩
    obtain ⟨e1, e2, g1, g2, k, l, s, hk, rfl, rfl, q1, q2, q3, q4, q5, q6⟩ := hlp
    refine ⟨nI s - 20 + 10 * nI l, 10 * nI l + nI s - 20, ?_, ?_, ?_, h⟩
    · unfold fX9_run
      rw [N2, if_neg (nI_n0 (by omega) (by omega)), if_neg (nI_nlt0 (by omega)), if_pos (show nI x < (256 : Int32) from nI_lt (b := 256) hx (by omega))]
      unfold fX5_walk_8
      rw [g1, Option.bind_some, aI_n _ (show k < 511 by omega) (by omega), Option.bind_some, q1]
      rfl
    · unfold fX10_run
      rw [N3, if_neg (nI_n0 (by omega) (by omega)), if_neg (nI_nlt0 (by omega)), if_pos (show nI x < (256 : Int32) from nI_lt (b := 256) hx (by omega)), g2, Option.bind_some, aI_n _ (show k < 512 by omega) (by omega), Option.bind_some, aI_n _ (show k < 512 by omega) (by omega), Option.bind_some, q2, q3]
    · rw [show (20 : Int32) = nI 20 from rfl, show (10 : Int32) = nI 10 from rfl, pk_mul, nI_add, pk_sub q4, nI_add, pk_sub (by omega)]
      congr 1
      omega
/-- tasks that are there, of the first N places -/
def ntk (f : Nat → Option Nat) : Nat → Nat
  | 0 => 0
  | N + 1 => ntk f N + if f N = none then 0 else 1
theorem ntk_le (f : Nat → Option Nat) (N : Nat) : ntk f N ≤ N := by
  induction N with
  | zero => exact Nat.le_refl _
  | succ N ih => unfold ntk; split <;> omega
theorem ntk_s (f : Nat → Option Nat) (N : Nat) : ntk f (N + 1) = ntk f N + if f N = none then 0 else 1 := rfl
theorem howT_n {o : Nat} {z : CS} : fX9_howManyTasks o z = some (nI (ntk (z.2.2.1 1) 8)) := by
  unfold fX9_howManyTasks
  have hlp : ∃ e, lpN (fun u => fX9_howManyTasks_L4 o z u.1 u.2) bigN ((0 : Int32), (0 : Int32)) = some e ∧ (fun e => e = nI (ntk (z.2.2.1 1) 8)) e := by
    refine lp_count (fun i s => s = (nI (ntk (z.2.2.1 1) i), nI i)) 8 _ (bigN_gt (by omega)) (fun i s hi hs => ?_) (fun s hs => ?_) rfl
    · subst hs
      refine ⟨(nI (ntk (z.2.2.1 1) (i + 1)), nI (i + 1)), ?_, rfl⟩
      show fX9_howManyTasks_L4 o z (nI (ntk (z.2.2.1 1) i)) (nI i) = _
      unfold fX9_howManyTasks_L4 fX9_howManyTasks_L4_J25
      rw [if_neg (show ¬ (8 : Int32) ≤ nI i from nI_ge (b := 8) hi (by omega)), aQ_n _ hi (by omega), Option.bind_some]
      cases e : z.2.2.1 1 i with
      | none =>
        show some (Sum.inl (nI (ntk (z.2.2.1 1) i) + nI 0, nI i + nI 1)) = _
        rw [nI_add, nI_add, ntk_s, if_pos e]
      | some q =>
        show some (Sum.inl (nI (ntk (z.2.2.1 1) i) + nI 1, nI i + nI 1)) = _
        rw [nI_add, nI_add, ntk_s, if_neg (by rw [e]; exact fun q => by cases q)]
    · subst hs
      refine ⟨_, ?_, rfl⟩
      show fX9_howManyTasks_L4 o z (nI (ntk (z.2.2.1 1) 8)) (nI 8) = _
      unfold fX9_howManyTasks_L4
      rw [if_pos (by decide)]
  obtain ⟨e, h3, h4⟩ := hlp
  rw [h3, Option.bind_some, h4]
theorem tasks_n {z : CS} {r : RS} (h : PlR z r 1 0) : fX10_tasks r = some (nI (ntk (z.2.2.1 1) 8)) := by
  unfold fX10_tasks
  have hlp : ∃ e, lpN (fun u => fX10_tasks_L4 r u.1 u.2) bigN ((0 : Int32), (0 : Int32)) = some e ∧ (fun e => e = nI (ntk (z.2.2.1 1) 8)) e := by
    refine lp_count (fun i s => s = (nI (ntk (z.2.2.1 1) i), nI i)) 8 _ (bigN_gt (by omega)) (fun i s hi hs => ?_) (fun s hs => ?_) rfl
    · subst hs
      refine ⟨(nI (ntk (z.2.2.1 1) (i + 1)), nI (i + 1)), ?_, rfl⟩
      show fX10_tasks_L4 r (nI (ntk (z.2.2.1 1) i)) (nI i) = _
      unfold fX10_tasks_L4 fX10_tasks_L4_J25
      rw [if_neg (show ¬ (8 : Int32) ≤ nI i from nI_ge (b := 8) hi (by omega)), aI_n _ (show i < 16 by omega) (by omega), Option.bind_some]
      cases e : z.2.2.1 1 i with
      | none =>
        rw [PlR_no h hi e, if_pos (by decide)]
        show some (Sum.inl (nI (ntk (z.2.2.1 1) i) + nI 0, nI i + nI 1)) = _
        rw [nI_add, nI_add, ntk_s, if_pos e]
      | some q =>
        obtain ⟨n, kd, wt, g, t1, t2⟩ := PlR_yes h hi e
        obtain ⟨n1, n8, _⟩ := Tk_n t1
        rw [t2.1, if_neg (nI_nle (by omega) (by omega))]
        show some (Sum.inl (nI (ntk (z.2.2.1 1) i) + nI 1, nI i + nI 1)) = _
        rw [nI_add, nI_add, ntk_s, if_neg (by rw [e]; exact fun q => by cases q)]
    · subst hs
      refine ⟨_, ?_, rfl⟩
      show fX10_tasks_L4 r (nI (ntk (z.2.2.1 1) 8)) (nI 8) = _
      unfold fX10_tasks_L4
      rw [if_pos (by decide)]
  obtain ⟨e, h3, h4⟩ := hlp
  rw [h3, Option.bind_some, h4]
theorem St_count_ok : St_count Sim := by
  intro o z r a1 h
  obtain ⟨h1, h2, h3, h4, ⟨w, w1, w2, w3, w4⟩, h6, h7, ⟨N, N1, N2, N3, N4, N5⟩, ⟨m, m1, m2, m3, m4⟩, h10, h11, h12, h13⟩ := id h
  unfold fX9_count fX10_count
  by_cases e0 : a1 = 0
  · rw [if_pos e0, if_pos e0, howT_n, tasks_n h3]
    exact ⟨_, _, rfl, rfl, rfl, h⟩
  rw [if_neg e0, if_neg e0]
  by_cases e1 : a1 = 1
  · rw [if_pos e1, if_pos e1]
    exact ⟨_, _, rfl, rfl, w2.trans w3.symm, h⟩
  rw [if_neg e1, if_neg e1]
  by_cases e2 : a1 = 2
  · rw [if_pos e2, if_pos e2]
    exact ⟨_, _, rfl, rfl, N2.trans N3.symm, h⟩
  rw [if_neg e2, if_neg e2]
  by_cases e3 : a1 = 3
  · rw [if_pos e3, if_pos e3]
    exact ⟨_, _, rfl, rfl, m2.trans m3.symm, h⟩
  rw [if_neg e3, if_neg e3]
  by_cases e4 : a1 = 4
  · rw [if_pos e4, if_pos e4]
    exact ⟨_, _, rfl, rfl, h6.1, h⟩
  rw [if_neg e4, if_neg e4]
  exact ⟨_, _, rfl, rfl, rfl, h⟩
