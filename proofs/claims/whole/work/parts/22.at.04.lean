theorem St_at_ok : St_at Sim := by
  intro o z r a1 a2 a3 h
  obtain ⟨h1, h2, h3, h4, h5, h6, h7, -⟩ := id h
  unfold fX9_at fX9_at_J9 fX9_at_J19 fX10_at fX10_at_J51 fX10_at_J16
  rcases ix a2 (n := 3) (by omega) with hx3 | ⟨w, hw, rfl⟩
  · refine ⟨(-2, z), (-2, r), ?_, ?_, rfl, h⟩
    · by_cases h0 : a2 < nI 0
      · simp (disch := omega) only [h0, Option.bind_some, aI_n, aL_n, aQ_n, sA_n, sL_n, csA_n, i_0, i_1, i_2, i_3, i_4, i_5, i_6, i_7, i_8, i_9, i_10, i_11, i_12, i_13, i_16, i_20, i_21, i_22, i_31, i_99, i_100, i_256, i_1000, nI_eq, nI_leI, nI_ltI, nI_add, pk_mul, ↓reduceIte, nt_le, nf_le, nt_lt, nf_lt, nt_eq, nf_eq, meet_N', meet_P', meet_S', meet_Z', meet_B', meet_O', n_1, n_2, n_3, n_4, n_5, n_10, n_11]
      · have c2 : ¬ a2 ≤ nI 2 := out4 (m := 2) (by omega) hx3 h0
        simp (disch := omega) only [h0, c2, Option.bind_some, aI_n, aL_n, aQ_n, sA_n, sL_n, csA_n, i_0, i_1, i_2, i_3, i_4, i_5, i_6, i_7, i_8, i_9, i_10, i_11, i_12, i_13, i_16, i_20, i_21, i_22, i_31, i_99, i_100, i_256, i_1000, nI_eq, nI_leI, nI_ltI, nI_add, pk_mul, ↓reduceIte, nt_le, nf_le, nt_lt, nf_lt, nt_eq, nf_eq, meet_N', meet_P', meet_S', meet_Z', meet_B', meet_O', n_1, n_2, n_3, n_4, n_5, n_10, n_11]
    · rcases ix a1 (n := 8) (by omega) with hx | ⟨s, hs, rfl⟩
      · simp (disch := omega) only [isPl10_out hx, Option.bind_some, aI_n, aL_n, aQ_n, sA_n, sL_n, csA_n, i_0, i_1, i_2, i_3, i_4, i_5, i_6, i_7, i_8, i_9, i_10, i_11, i_12, i_13, i_16, i_20, i_21, i_22, i_31, i_99, i_100, i_256, i_1000, nI_eq, nI_leI, nI_ltI, nI_add, pk_mul, ↓reduceIte, nt_le, nf_le, nt_lt, nf_lt, nt_eq, nf_eq, meet_N', meet_P', meet_S', meet_Z', meet_B', meet_O', n_1, n_2, n_3, n_4, n_5, n_10, n_11]
      · by_cases h0 : a2 < nI 0
        · simp (disch := omega) only [isPl10_in hs, h0, Option.bind_some, aI_n, aL_n, aQ_n, sA_n, sL_n, csA_n, i_0, i_1, i_2, i_3, i_4, i_5, i_6, i_7, i_8, i_9, i_10, i_11, i_12, i_13, i_16, i_20, i_21, i_22, i_31, i_99, i_100, i_256, i_1000, nI_eq, nI_leI, nI_ltI, nI_add, pk_mul, ↓reduceIte, nt_le, nf_le, nt_lt, nf_lt, nt_eq, nf_eq, meet_N', meet_P', meet_S', meet_Z', meet_B', meet_O', n_1, n_2, n_3, n_4, n_5, n_10, n_11]
        · have c2 : ¬ a2 ≤ nI 2 := out4 (m := 2) (by omega) hx3 h0
          simp (disch := omega) only [isPl10_in hs, h0, c2, Option.bind_some, aI_n, aL_n, aQ_n, sA_n, sL_n, csA_n, i_0, i_1, i_2, i_3, i_4, i_5, i_6, i_7, i_8, i_9, i_10, i_11, i_12, i_13, i_16, i_20, i_21, i_22, i_31, i_99, i_100, i_256, i_1000, nI_eq, nI_leI, nI_ltI, nI_add, pk_mul, ↓reduceIte, nt_le, nf_le, nt_lt, nf_lt, nt_eq, nf_eq, meet_N', meet_P', meet_S', meet_Z', meet_B', meet_O', n_1, n_2, n_3, n_4, n_5, n_10, n_11]
  rcases plc h3 a1 with hx | ⟨k, hk, rfl, e, e'⟩ | ⟨k, q, n, kd, wt, g, b, hk, rfl, e, t1, t2, n1, n8, hg, d1, d2, d3, p2, p1⟩
  · refine ⟨(-2, z), (-2, r), ?_, ?_, rfl, h⟩
    · simp (disch := omega) only [told9_out hx, Option.bind_some, aI_n, aL_n, aQ_n, sA_n, sL_n, csA_n, i_0, i_1, i_2, i_3, i_4, i_5, i_6, i_7, i_8, i_9, i_10, i_11, i_12, i_13, i_16, i_20, i_21, i_22, i_31, i_99, i_100, i_256, i_1000, nI_eq, nI_leI, nI_ltI, nI_add, pk_mul, ↓reduceIte, nt_le, nf_le, nt_lt, nf_lt, nt_eq, nf_eq, meet_N', meet_P', meet_S', meet_Z', meet_B', meet_O', n_1, n_2, n_3, n_4, n_5, n_10, n_11]
    · simp (disch := omega) only [isPl10_out hx, Option.bind_some, aI_n, aL_n, aQ_n, sA_n, sL_n, csA_n, i_0, i_1, i_2, i_3, i_4, i_5, i_6, i_7, i_8, i_9, i_10, i_11, i_12, i_13, i_16, i_20, i_21, i_22, i_31, i_99, i_100, i_256, i_1000, nI_eq, nI_leI, nI_ltI, nI_add, pk_mul, ↓reduceIte, nt_le, nf_le, nt_lt, nf_lt, nt_eq, nf_eq, meet_N', meet_P', meet_S', meet_Z', meet_B', meet_O', n_1, n_2, n_3, n_4, n_5, n_10, n_11]
  · refine ⟨(-10, _), (-10, _), ?_, ?_, rfl, Sim_met h⟩
    · simp (disch := omega) only [told9_no hk e, Option.bind_some, aI_n, aL_n, aQ_n, sA_n, sL_n, csA_n, i_0, i_1, i_2, i_3, i_4, i_5, i_6, i_7, i_8, i_9, i_10, i_11, i_12, i_13, i_16, i_20, i_21, i_22, i_31, i_99, i_100, i_256, i_1000, nI_eq, nI_leI, nI_ltI, nI_add, pk_mul, ↓reduceIte, nt_le, nf_le, nt_lt, nf_lt, nt_eq, nf_eq, meet_N', meet_P', meet_S', meet_Z', meet_B', meet_O', n_1, n_2, n_3, n_4, n_5, n_10, n_11] <;> rfl
    · simp (disch := omega) only [isPl10_in hk, askT_no hk e', Option.bind_some, aI_n, aL_n, aQ_n, sA_n, sL_n, csA_n, i_0, i_1, i_2, i_3, i_4, i_5, i_6, i_7, i_8, i_9, i_10, i_11, i_12, i_13, i_16, i_20, i_21, i_22, i_31, i_99, i_100, i_256, i_1000, nI_eq, nI_leI, nI_ltI, nI_add, pk_mul, ↓reduceIte, nt_le, nf_le, nt_lt, nf_lt, nt_eq, nf_eq, meet_N', meet_P', meet_S', meet_Z', meet_B', meet_O', n_1, n_2, n_3, n_4, n_5, n_10, n_11] <;> rfl
  · have hk16 : k < 16 := by omega
    have f1 := told9_yes (o := o) hk e t1
    have f2 := askT_yes hk t2 n1 n8 hg
    by_cases ht : cnt g 2 (2 ^ n) = 0
    · rw [if_pos ht] at f1 f2
      rcases ix a3 (n := 2 ^ n) (by omega) with hx | ⟨x, hx, rfl⟩
      · refine ⟨(-11, _), (-11, _), ?_, ?_, rfl, Sim_met h⟩
        · simp (disch := omega) only [f1, e, d1, hasIn_out t1 hx, counted_n, Option.bind_some, aI_n, aL_n, aQ_n, sA_n, sL_n, csA_n, i_0, i_1, i_2, i_3, i_4, i_5, i_6, i_7, i_8, i_9, i_10, i_11, i_12, i_13, i_16, i_20, i_21, i_22, i_31, i_99, i_100, i_256, i_1000, nI_eq, nI_leI, nI_ltI, nI_add, pk_mul, ↓reduceIte, nt_le, nf_le, nt_lt, nf_lt, nt_eq, nf_eq, meet_N', meet_P', meet_S', meet_Z', meet_B', meet_O', n_1, n_2, n_3, n_4, n_5, n_10, n_11] <;> rfl
        · by_cases h0 : a3 < nI 0
          · simp (disch := omega) only [isPl10_in hk, f2, h0, meet_P, Option.bind_some, aI_n, aL_n, aQ_n, sA_n, sL_n, csA_n, i_0, i_1, i_2, i_3, i_4, i_5, i_6, i_7, i_8, i_9, i_10, i_11, i_12, i_13, i_16, i_20, i_21, i_22, i_31, i_99, i_100, i_256, i_1000, nI_eq, nI_leI, nI_ltI, nI_add, pk_mul, ↓reduceIte, nt_le, nf_le, nt_lt, nf_lt, nt_eq, nf_eq, meet_N', meet_P', meet_S', meet_Z', meet_B', meet_O', n_1, n_2, n_3, n_4, n_5, n_10, n_11] <;> rfl
          · have c2 : ¬ a3 < nI (2 ^ n) := ge_nlt (by omega) (hx.resolve_left h0)
            simp (disch := omega) only [isPl10_in hk, f2, h0, inputs_n hk16 t2.1 n8, c2, meet_P, Option.bind_some, aI_n, aL_n, aQ_n, sA_n, sL_n, csA_n, i_0, i_1, i_2, i_3, i_4, i_5, i_6, i_7, i_8, i_9, i_10, i_11, i_12, i_13, i_16, i_20, i_21, i_22, i_31, i_99, i_100, i_256, i_1000, nI_eq, nI_leI, nI_ltI, nI_add, pk_mul, ↓reduceIte, nt_le, nf_le, nt_lt, nf_lt, nt_eq, nf_eq, meet_N', meet_P', meet_S', meet_Z', meet_B', meet_O', n_1, n_2, n_3, n_4, n_5, n_10, n_11] <;> rfl
      · obtain ⟨r', v1, v2⟩ := tell_n h7 hk16 t2 hg n8
        have t2' : TkR r' k n kd wt g := RSame.tk (r := r) ⟨by rw [v2.2.2.1 0 (by omega)], by rw [v2.2.2.1 1 (by omega)], by rw [v2.2.2.1 2 (by omega)], fun x _ => by rw [v2.2.2.1 3 (by omega)]⟩ n8 t2
        obtain ⟨v, m1, m2, m3⟩ := meas_n (o := o) (w := w) hk16 (by omega) (v2.pw h7) ⟨rfl, rfl, fun _ _ => rfl, v2.2.2.2⟩ t1 t2' d1 n8 hg (told_le hg ht) hx
        obtain ⟨z', y1, y2⟩ := m2 z ZQ.rf
        obtain ⟨r2, y3, y4, -⟩ := m3 r' RQ.rf
        refine ⟨(nI v, z'), (nI v, r2), ?_, ?_, rfl, Sim_rq (Sim_zq (v2.sim h) y2) y4⟩
        · simp (disch := omega) only [f1, e, d1, hasIn_in t1 hx, y1, Option.bind_some, aI_n, aL_n, aQ_n, sA_n, sL_n, csA_n, i_0, i_1, i_2, i_3, i_4, i_5, i_6, i_7, i_8, i_9, i_10, i_11, i_12, i_13, i_16, i_20, i_21, i_22, i_31, i_99, i_100, i_256, i_1000, nI_eq, nI_leI, nI_ltI, nI_add, pk_mul, ↓reduceIte, nt_le, nf_le, nt_lt, nf_lt, nt_eq, nf_eq, meet_N', meet_P', meet_S', meet_Z', meet_B', meet_O', n_1, n_2, n_3, n_4, n_5, n_10, n_11]
        · simp (disch := omega) only [isPl10_in hk, f2, inputs_n hk16 t2.1 n8, v1, y3, Option.bind_some, aI_n, aL_n, aQ_n, sA_n, sL_n, csA_n, i_0, i_1, i_2, i_3, i_4, i_5, i_6, i_7, i_8, i_9, i_10, i_11, i_12, i_13, i_16, i_20, i_21, i_22, i_31, i_99, i_100, i_256, i_1000, nI_eq, nI_leI, nI_ltI, nI_add, pk_mul, ↓reduceIte, nt_le, nf_le, nt_lt, nf_lt, nt_eq, nf_eq, meet_N', meet_P', meet_S', meet_Z', meet_B', meet_O', n_1, n_2, n_3, n_4, n_5, n_10, n_11]
    · rw [if_neg ht] at f1 f2
      refine ⟨(-4, z), (-4, r), ?_, ?_, rfl, h⟩
      · simp (disch := omega) only [f1, Option.bind_some, aI_n, aL_n, aQ_n, sA_n, sL_n, csA_n, i_0, i_1, i_2, i_3, i_4, i_5, i_6, i_7, i_8, i_9, i_10, i_11, i_12, i_13, i_16, i_20, i_21, i_22, i_31, i_99, i_100, i_256, i_1000, nI_eq, nI_leI, nI_ltI, nI_add, pk_mul, ↓reduceIte, nt_le, nf_le, nt_lt, nf_lt, nt_eq, nf_eq, meet_N', meet_P', meet_S', meet_Z', meet_B', meet_O', n_1, n_2, n_3, n_4, n_5, n_10, n_11]
      · simp (disch := omega) only [isPl10_in hk, f2, Option.bind_some, aI_n, aL_n, aQ_n, sA_n, sL_n, csA_n, i_0, i_1, i_2, i_3, i_4, i_5, i_6, i_7, i_8, i_9, i_10, i_11, i_12, i_13, i_16, i_20, i_21, i_22, i_31, i_99, i_100, i_256, i_1000, nI_eq, nI_leI, nI_ltI, nI_add, pk_mul, ↓reduceIte, nt_le, nf_le, nt_lt, nf_lt, nt_eq, nf_eq, meet_N', meet_P', meet_S', meet_Z', meet_B', meet_O', n_1, n_2, n_3, n_4, n_5, n_10, n_11]
/-- the least input with the greatest measure, and that -/
def bst (V g : Nat → Nat) (sd : Nat) : Nat → Option (Nat × Nat)
  | 0 => none
  | k + 1 => if sd = 2 ∨ g k = sd then (match bst V g sd k with
      | none => some (k, V k)
      | some u => if V k ≤ u.2 then some u else some (k, V k)) else bst V g sd k
def fs1 : Option (Nat × Nat) → Int32
  | none => -nI 1
  | some u => nI u.1
def fs2 : Option (Nat × Nat) → Int32
  | none => -nI 1
  | some u => nI u.2
theorem bst_no {V g : Nat → Nat} {sd k : Nat} (h : ¬ (sd = 2 ∨ g k = sd)) : bst V g sd (k + 1) = bst V g sd k := if_neg h
theorem bst_nn {V g : Nat → Nat} {sd k : Nat} (h : sd = 2 ∨ g k = sd) (e : bst V g sd k = none) : bst V g sd (k + 1) = some (k, V k) := by
  refine (if_pos h).trans ?_
  rw [e]
theorem bst_le {V g : Nat → Nat} {sd k : Nat} {u : Nat × Nat} (h : sd = 2 ∨ g k = sd) (e : bst V g sd k = some u) (hv : V k ≤ u.2) : bst V g sd (k + 1) = some u := by
  refine (if_pos h).trans ?_
  rw [e]
  exact if_pos hv
theorem bst_gt {V g : Nat → Nat} {sd k : Nat} {u : Nat × Nat} (h : sd = 2 ∨ g k = sd) (e : bst V g sd k = some u) (hv : ¬ V k ≤ u.2) : bst V g sd (k + 1) = some (k, V k) := by
  refine (if_pos h).trans ?_
  rw [e]
  exact if_neg hv
theorem bst_v {V g : Nat → Nat} {sd : Nat} : ∀ k u, bst V g sd k = some u → u.1 < k ∧ u.2 = V u.1 := by
  intro k
  induction k with
  | zero => intro u h; cases h
  | succ k ih =>
    intro u h
    by_cases c : sd = 2 ∨ g k = sd
    · cases e : bst V g sd k with
      | none =>
        rw [bst_nn c e] at h
        obtain rfl := Option.some.inj h
        exact ⟨by show k < k + 1; omega, rfl⟩
      | some u' =>
        by_cases hv : V k ≤ u'.2
        · rw [bst_le c e hv] at h
          obtain rfl := Option.some.inj h
          have := ih u' e
          exact ⟨by omega, this.2⟩
        · rw [bst_gt c e hv] at h
          obtain rfl := Option.some.inj h
          exact ⟨by show k < k + 1; omega, rfl⟩
    · rw [bst_no c] at h
      have := ih u h
      exact ⟨by omega, this.2⟩
theorem bst_stop {V g : Nat → Nat} {sd i n N : Nat} {u : Nat × Nat} (hV : ∀ x, x < N → V x ≤ n) (e : bst V g sd i = some u) (hu : n ≤ u.2) : ∀ k, i + k ≤ N → bst V g sd (i + k) = some u := by
  intro k
  induction k with
  | zero => intro _; exact e
  | succ k ih =>
    intro hk
    have e' := ih (by omega)
    have := hV (i + k) (by omega)
    by_cases c : sd = 2 ∨ g (i + k) = sd
    · exact bst_le (k := i + k) c e' (by omega)
    · rw [show i + (k + 1) = i + k + 1 by omega, bst_no c]; exact e'
theorem nle_m1 (a : Nat) (h : a < 2 ^ 31) : (nI a ≤ -nI 1) = False := eq_false fun q => by
  have := Int32.le_iff_toInt_le.mp q
  rw [nI_toInt h] at this
  have e : (-nI 1).toInt = -1 := by decide
  omega
theorem lg_n {o : Nat} {z : CS} {q n b w sd : Nat} {kd wt : Int32} {g V : Nat → Nat} (n8 : n ≤ 8) (n1 : 1 ≤ n) (hsd : sd ≤ 2) (hg : ∀ x, g x ≤ 2) (t1 : TkAt z q n kd wt g) (d1 : dT z q = some (kd, nI n, wt, some b)) (hV : ∀ x, x < 2 ^ n → V x ≤ n ∧ ∀ y, ZQ z y → ∃ y', fX0_measure o y q (nI w) (nI x) = some (nI (V x), y') ∧ ZQ z y') : ∃ y', fX0_leastGreatest o z q (nI w) (nI sd) = some (fs1 (bst V g sd (2 ^ n)), y') ∧ ZQ z y' := by
  have p2 := p2le n8
  obtain ⟨f, u2, u3⟩ := TkB t1 d1
  have HH := lp_upto (body := fun u => fX0_leastGreatest_L9 o u.2.2.2 q (nI w) (nI sd) u.1 u.2.1 u.2.2.1) (fun i st => ∃ y, st = (fs1 (bst V g sd i), fs2 (bst V g sd i), nI i, y) ∧ ZQ z y) (2 ^ n) (fun e => e.1 = fs1 (bst V g sd (2 ^ n)) ∧ ZQ z e.2) (bigN_gt (by omega)) (fun i st hi hst => ?_) (fun st hst => ?_) (s := (-nI 1, -nI 1, nI 0, z)) ⟨z, rfl, ZQ.rf⟩
  · obtain ⟨e, e1, e2, e3⟩ := HH
    refine ⟨e.2, ?_, e3⟩
    unfold fX0_leastGreatest
    refine (congrArg (fun u => u.bind fun e9 => some (e9.1, e9.2)) e1).trans ?_
    rw [← e2]
    rfl
  · obtain ⟨y, rfl, hy⟩ := hst
    have y1 := ZQ_T hy d1
    obtain ⟨y2, y3⟩ := rd_f (ZQ_B hy u2) u3 n8
    have gl := hg i
    obtain ⟨vl, vm⟩ := hV i hi
    obtain ⟨y', w1, w2⟩ := vm y hy
    cases eb : bst V g sd i with
    | none =>
      left
      have c0 := nle_m1 n (by omega)
      have c1 := nle_m1 (V i) (by omega)
      by_cases c : sd = 2 ∨ g i = sd
      · refine ⟨(nI i, nI (V i), nI (i + 1), y'), ?_, y', by rw [bst_nn c eb]; rfl, w2⟩
        unfold fX0_leastGreatest_L9 fX0_leastGreatest_L9_J47 fX0_leastGreatest_L9_J72
        by_cases s2 : sd = 2
        · subst s2
          simp (disch := omega) only [y1, y2, fs2, c0, w1, c1, Option.bind_some, aI_n, aL_n, aQ_n, sA_n, sL_n, csA_n, i_0, i_1, i_2, i_3, i_4, i_5, i_6, i_7, i_8, i_9, i_10, i_11, i_12, i_13, i_16, i_20, i_21, i_22, i_31, i_99, i_100, i_256, i_1000, nI_eq, nI_leI, nI_ltI, nI_add, pk_mul, ↓reduceIte, nt_le, nf_le, nt_lt, nf_lt, nt_eq, nf_eq, meet_N', meet_P', meet_S', meet_Z', meet_B', meet_O', n_1, n_2, n_3, n_4, n_5, n_10, n_11]
        · have := c.resolve_left s2
          simp (disch := omega) only [y1, y2, fs2, c0, y3 i hi, w1, c1, Option.bind_some, aI_n, aL_n, aQ_n, sA_n, sL_n, csA_n, i_0, i_1, i_2, i_3, i_4, i_5, i_6, i_7, i_8, i_9, i_10, i_11, i_12, i_13, i_16, i_20, i_21, i_22, i_31, i_99, i_100, i_256, i_1000, nI_eq, nI_leI, nI_ltI, nI_add, pk_mul, ↓reduceIte, nt_le, nf_le, nt_lt, nf_lt, nt_eq, nf_eq, meet_N', meet_P', meet_S', meet_Z', meet_B', meet_O', n_1, n_2, n_3, n_4, n_5, n_10, n_11]
      · have s2 : ¬ sd = 2 := fun w => c (Or.inl w)
        have s3 : ¬ g i = sd := fun w => c (Or.inr w)
        refine ⟨(-nI 1, -nI 1, nI (i + 1), y), ?_, y, by rw [bst_no c, eb]; rfl, hy⟩
        unfold fX0_leastGreatest_L9 fX0_leastGreatest_L9_J72
        simp (disch := omega) only [y1, y2, fs1, fs2, c0, y3 i hi, Option.bind_some, aI_n, aL_n, aQ_n, sA_n, sL_n, csA_n, i_0, i_1, i_2, i_3, i_4, i_5, i_6, i_7, i_8, i_9, i_10, i_11, i_12, i_13, i_16, i_20, i_21, i_22, i_31, i_99, i_100, i_256, i_1000, nI_eq, nI_leI, nI_ltI, nI_add, pk_mul, ↓reduceIte, nt_le, nf_le, nt_lt, nf_lt, nt_eq, nf_eq, meet_N', meet_P', meet_S', meet_Z', meet_B', meet_O', n_1, n_2, n_3, n_4, n_5, n_10, n_11]
    | some u =>
      have ul := bst_v i u eb
      have uv := (hV u.1 (by omega)).1
      by_cases hst : n ≤ u.2
      · right
        refine ⟨(nI u.1, y), ?_, ?_, hy⟩
        · unfold fX0_leastGreatest_L9
          simp (disch := omega) only [y1, y2, fs1, fs2, Option.bind_some, aI_n, aL_n, aQ_n, sA_n, sL_n, csA_n, i_0, i_1, i_2, i_3, i_4, i_5, i_6, i_7, i_8, i_9, i_10, i_11, i_12, i_13, i_16, i_20, i_21, i_22, i_31, i_99, i_100, i_256, i_1000, nI_eq, nI_leI, nI_ltI, nI_add, pk_mul, ↓reduceIte, nt_le, nf_le, nt_lt, nf_lt, nt_eq, nf_eq, meet_N', meet_P', meet_S', meet_Z', meet_B', meet_O', n_1, n_2, n_3, n_4, n_5, n_10, n_11]
        · have := bst_stop (V := V) (g := g) (N := 2 ^ n) (fun x hx => (hV x hx).1) eb hst (2 ^ n - i) (by omega)
          rw [show i + (2 ^ n - i) = 2 ^ n by omega] at this
          rw [this]
          rfl
      · left
        by_cases c : sd = 2 ∨ g i = sd
        · by_cases hv : V i ≤ u.2
          · refine ⟨(nI u.1, nI u.2, nI (i + 1), y'), ?_, y', by rw [bst_le c eb hv]; rfl, w2⟩
            unfold fX0_leastGreatest_L9 fX0_leastGreatest_L9_J47 fX0_leastGreatest_L9_J72
            by_cases s2 : sd = 2
            · subst s2
              simp (disch := omega) only [y1, y2, fs1, fs2, w1, Option.bind_some, aI_n, aL_n, aQ_n, sA_n, sL_n, csA_n, i_0, i_1, i_2, i_3, i_4, i_5, i_6, i_7, i_8, i_9, i_10, i_11, i_12, i_13, i_16, i_20, i_21, i_22, i_31, i_99, i_100, i_256, i_1000, nI_eq, nI_leI, nI_ltI, nI_add, pk_mul, ↓reduceIte, nt_le, nf_le, nt_lt, nf_lt, nt_eq, nf_eq, meet_N', meet_P', meet_S', meet_Z', meet_B', meet_O', n_1, n_2, n_3, n_4, n_5, n_10, n_11]
            · have := c.resolve_left s2
              simp (disch := omega) only [y1, y2, fs1, fs2, y3 i hi, w1, Option.bind_some, aI_n, aL_n, aQ_n, sA_n, sL_n, csA_n, i_0, i_1, i_2, i_3, i_4, i_5, i_6, i_7, i_8, i_9, i_10, i_11, i_12, i_13, i_16, i_20, i_21, i_22, i_31, i_99, i_100, i_256, i_1000, nI_eq, nI_leI, nI_ltI, nI_add, pk_mul, ↓reduceIte, nt_le, nf_le, nt_lt, nf_lt, nt_eq, nf_eq, meet_N', meet_P', meet_S', meet_Z', meet_B', meet_O', n_1, n_2, n_3, n_4, n_5, n_10, n_11]
          · refine ⟨(nI i, nI (V i), nI (i + 1), y'), ?_, y', by rw [bst_gt c eb hv]; rfl, w2⟩
            unfold fX0_leastGreatest_L9 fX0_leastGreatest_L9_J47 fX0_leastGreatest_L9_J72
            by_cases s2 : sd = 2
            · subst s2
              simp (disch := omega) only [y1, y2, fs1, fs2, w1, Option.bind_some, aI_n, aL_n, aQ_n, sA_n, sL_n, csA_n, i_0, i_1, i_2, i_3, i_4, i_5, i_6, i_7, i_8, i_9, i_10, i_11, i_12, i_13, i_16, i_20, i_21, i_22, i_31, i_99, i_100, i_256, i_1000, nI_eq, nI_leI, nI_ltI, nI_add, pk_mul, ↓reduceIte, nt_le, nf_le, nt_lt, nf_lt, nt_eq, nf_eq, meet_N', meet_P', meet_S', meet_Z', meet_B', meet_O', n_1, n_2, n_3, n_4, n_5, n_10, n_11]
            · have := c.resolve_left s2
              simp (disch := omega) only [y1, y2, fs1, fs2, y3 i hi, w1, Option.bind_some, aI_n, aL_n, aQ_n, sA_n, sL_n, csA_n, i_0, i_1, i_2, i_3, i_4, i_5, i_6, i_7, i_8, i_9, i_10, i_11, i_12, i_13, i_16, i_20, i_21, i_22, i_31, i_99, i_100, i_256, i_1000, nI_eq, nI_leI, nI_ltI, nI_add, pk_mul, ↓reduceIte, nt_le, nf_le, nt_lt, nf_lt, nt_eq, nf_eq, meet_N', meet_P', meet_S', meet_Z', meet_B', meet_O', n_1, n_2, n_3, n_4, n_5, n_10, n_11]
        · have s2 : ¬ sd = 2 := fun w => c (Or.inl w)
          have s3 : ¬ g i = sd := fun w => c (Or.inr w)
          refine ⟨(nI u.1, nI u.2, nI (i + 1), y), ?_, y, by rw [bst_no c, eb]; rfl, hy⟩
          unfold fX0_leastGreatest_L9 fX0_leastGreatest_L9_J72
          simp (disch := omega) only [y1, y2, fs1, fs2, y3 i hi, Option.bind_some, aI_n, aL_n, aQ_n, sA_n, sL_n, csA_n, i_0, i_1, i_2, i_3, i_4, i_5, i_6, i_7, i_8, i_9, i_10, i_11, i_12, i_13, i_16, i_20, i_21, i_22, i_31, i_99, i_100, i_256, i_1000, nI_eq, nI_leI, nI_ltI, nI_add, pk_mul, ↓reduceIte, nt_le, nf_le, nt_lt, nf_lt, nt_eq, nf_eq, meet_N', meet_P', meet_S', meet_Z', meet_B', meet_O', n_1, n_2, n_3, n_4, n_5, n_10, n_11]
  · obtain ⟨y, rfl, hy⟩ := hst
    obtain ⟨y2, y3⟩ := rd_f (ZQ_B hy u2) u3 n8
    refine ⟨(fs1 (bst V g sd (2 ^ n)), y), ?_, rfl, hy⟩
    unfold fX0_leastGreatest_L9
    simp (disch := omega) only [ZQ_T hy d1, y2, Option.bind_some, aI_n, aL_n, aQ_n, sA_n, sL_n, csA_n, i_0, i_1, i_2, i_3, i_4, i_5, i_6, i_7, i_8, i_9, i_10, i_11, i_12, i_13, i_16, i_20, i_21, i_22, i_31, i_99, i_100, i_256, i_1000, nI_eq, nI_leI, nI_ltI, nI_add, pk_mul, ↓reduceIte, nt_le, nf_le, nt_lt, nf_lt, nt_eq, nf_eq, meet_N', meet_P', meet_S', meet_Z', meet_B', meet_O', n_1, n_2, n_3, n_4, n_5, n_10, n_11]
theorem mo_n {r : RS} {p n w sd : Nat} {kd wt : Int32} {g V : Nat → Nat} (hp : p < 16) (n8 : n ≤ 8) (hsd : sd ≤ 2) (hg : ∀ x, g x ≤ 2) (t2 : TkR r p n kd wt g) (h6 : r.1 6 = -nI 1) (hV : ∀ x, x < 2 ^ n → V x ≤ n ∧ ∀ rr, RQ r rr → ∃ r', fX10_settles rr (nI p) (nI w) (nI x) = some (nI (V x), r') ∧ RQ r r' ∧ r'.1 6 = rr.1 6) : ∃ e, lpN (fun u => fX10_most_L63 u.2.2 (nI p) (nI w) (nI sd) u.1 u.2.1) bigN (-nI 1, nI 0, r) = some e ∧ (e.1 = fs2 (bst V g sd (2 ^ n)) ∧ RQ r e.2 ∧ e.2.1 6 = fs1 (bst V g sd (2 ^ n))) := by
  have p2 := p2le n8
  refine lp_count (fun i st => ∃ rr, st = (fs2 (bst V g sd i), nI i, rr) ∧ RQ r rr ∧ rr.1 6 = fs1 (bst V g sd i)) (2 ^ n) _ (bigN_gt (by omega)) (fun i st hi hst => ?_) (fun st hst => ?_) ⟨r, rfl, RQ.rf, h6⟩
  · obtain ⟨rr, rfl, hr, hr6⟩ := hst
    have tk := RQ_tk hr n8 t2
    have gl := hg i
    obtain ⟨vl, vm⟩ := hV i hi
    obtain ⟨r', w1, w2, w3⟩ := vm rr hr
    unfold fX10_most_L63 fX10_most_L63_J89 fX10_most_L63_J116 fX10_most_L63_J133 fX10_most_L63_J135
    by_cases c : sd = 2 ∨ g i = sd
    · cases eb : bst V g sd i with
      | none =>
        have c1 := nle_m1 (V i) (by omega)
        refine ⟨(nI (V i), nI (i + 1), rI r' 6 (nI i)), ?_, rI r' 6 (nI i), by rw [bst_nn c eb]; rfl, w2.i6, by rw [bst_nn c eb, rI_e]; rfl⟩
        by_cases s2 : sd = 2
        · subst s2
          simp (disch := omega) only [inputs_n hp tk.1 n8, fs2, w1, c1, Option.bind_some, aI_n, aL_n, aQ_n, sA_n, sL_n, csA_n, i_0, i_1, i_2, i_3, i_4, i_5, i_6, i_7, i_8, i_9, i_10, i_11, i_12, i_13, i_16, i_20, i_21, i_22, i_31, i_99, i_100, i_256, i_1000, nI_eq, nI_leI, nI_ltI, nI_add, pk_mul, ↓reduceIte, nt_le, nf_le, nt_lt, nf_lt, nt_eq, nf_eq, meet_N', meet_P', meet_S', meet_Z', meet_B', meet_O', n_1, n_2, n_3, n_4, n_5, n_10, n_11]
        · have := c.resolve_left s2
          simp (disch := omega) only [inputs_n hp tk.1 n8, fs2, say0_n hp tk n8 hi, w1, c1, Option.bind_some, aI_n, aL_n, aQ_n, sA_n, sL_n, csA_n, i_0, i_1, i_2, i_3, i_4, i_5, i_6, i_7, i_8, i_9, i_10, i_11, i_12, i_13, i_16, i_20, i_21, i_22, i_31, i_99, i_100, i_256, i_1000, nI_eq, nI_leI, nI_ltI, nI_add, pk_mul, ↓reduceIte, nt_le, nf_le, nt_lt, nf_lt, nt_eq, nf_eq, meet_N', meet_P', meet_S', meet_Z', meet_B', meet_O', n_1, n_2, n_3, n_4, n_5, n_10, n_11]
      | some u =>
        have ul := bst_v i u eb
        have uv := (hV u.1 (by omega)).1
        by_cases hv : V i ≤ u.2
        · refine ⟨(nI u.2, nI (i + 1), rI r' 6 (r'.1 6)), ?_, rI r' 6 (r'.1 6), by rw [bst_le c eb hv]; rfl, w2.i6, by rw [bst_le c eb hv, rI_e, w3, hr6, eb]⟩
          by_cases s2 : sd = 2
          · subst s2
            simp (disch := omega) only [inputs_n hp tk.1 n8, fs2, w1, Option.bind_some, aI_n, aL_n, aQ_n, sA_n, sL_n, csA_n, i_0, i_1, i_2, i_3, i_4, i_5, i_6, i_7, i_8, i_9, i_10, i_11, i_12, i_13, i_16, i_20, i_21, i_22, i_31, i_99, i_100, i_256, i_1000, nI_eq, nI_leI, nI_ltI, nI_add, pk_mul, ↓reduceIte, nt_le, nf_le, nt_lt, nf_lt, nt_eq, nf_eq, meet_N', meet_P', meet_S', meet_Z', meet_B', meet_O', n_1, n_2, n_3, n_4, n_5, n_10, n_11]
          · have := c.resolve_left s2
            simp (disch := omega) only [inputs_n hp tk.1 n8, fs2, say0_n hp tk n8 hi, w1, Option.bind_some, aI_n, aL_n, aQ_n, sA_n, sL_n, csA_n, i_0, i_1, i_2, i_3, i_4, i_5, i_6, i_7, i_8, i_9, i_10, i_11, i_12, i_13, i_16, i_20, i_21, i_22, i_31, i_99, i_100, i_256, i_1000, nI_eq, nI_leI, nI_ltI, nI_add, pk_mul, ↓reduceIte, nt_le, nf_le, nt_lt, nf_lt, nt_eq, nf_eq, meet_N', meet_P', meet_S', meet_Z', meet_B', meet_O', n_1, n_2, n_3, n_4, n_5, n_10, n_11]
        · refine ⟨(nI (V i), nI (i + 1), rI r' 6 (nI i)), ?_, rI r' 6 (nI i), by rw [bst_gt c eb hv]; rfl, w2.i6, by rw [bst_gt c eb hv, rI_e]; rfl⟩
          by_cases s2 : sd = 2
          · subst s2
            simp (disch := omega) only [inputs_n hp tk.1 n8, fs2, w1, Option.bind_some, aI_n, aL_n, aQ_n, sA_n, sL_n, csA_n, i_0, i_1, i_2, i_3, i_4, i_5, i_6, i_7, i_8, i_9, i_10, i_11, i_12, i_13, i_16, i_20, i_21, i_22, i_31, i_99, i_100, i_256, i_1000, nI_eq, nI_leI, nI_ltI, nI_add, pk_mul, ↓reduceIte, nt_le, nf_le, nt_lt, nf_lt, nt_eq, nf_eq, meet_N', meet_P', meet_S', meet_Z', meet_B', meet_O', n_1, n_2, n_3, n_4, n_5, n_10, n_11]
          · have := c.resolve_left s2
            simp (disch := omega) only [inputs_n hp tk.1 n8, fs2, say0_n hp tk n8 hi, w1, Option.bind_some, aI_n, aL_n, aQ_n, sA_n, sL_n, csA_n, i_0, i_1, i_2, i_3, i_4, i_5, i_6, i_7, i_8, i_9, i_10, i_11, i_12, i_13, i_16, i_20, i_21, i_22, i_31, i_99, i_100, i_256, i_1000, nI_eq, nI_leI, nI_ltI, nI_add, pk_mul, ↓reduceIte, nt_le, nf_le, nt_lt, nf_lt, nt_eq, nf_eq, meet_N', meet_P', meet_S', meet_Z', meet_B', meet_O', n_1, n_2, n_3, n_4, n_5, n_10, n_11]
    · have s2 : ¬ sd = 2 := fun w => c (Or.inl w)
      have s3 : ¬ g i = sd := fun w => c (Or.inr w)
      refine ⟨(fs2 (bst V g sd i), nI (i + 1), rr), ?_, rr, by rw [bst_no c], hr, by rw [bst_no c]; exact hr6⟩
      simp (disch := omega) only [inputs_n hp tk.1 n8, say0_n hp tk n8 hi, Option.bind_some, aI_n, aL_n, aQ_n, sA_n, sL_n, csA_n, i_0, i_1, i_2, i_3, i_4, i_5, i_6, i_7, i_8, i_9, i_10, i_11, i_12, i_13, i_16, i_20, i_21, i_22, i_31, i_99, i_100, i_256, i_1000, nI_eq, nI_leI, nI_ltI, nI_add, pk_mul, ↓reduceIte, nt_le, nf_le, nt_lt, nf_lt, nt_eq, nf_eq, meet_N', meet_P', meet_S', meet_Z', meet_B', meet_O', n_1, n_2, n_3, n_4, n_5, n_10, n_11]
  · obtain ⟨rr, rfl, hr, hr6⟩ := hst
    have tk := RQ_tk hr n8 t2
    refine ⟨(fs2 (bst V g sd (2 ^ n)), rr), ?_, rfl, hr, hr6⟩
    unfold fX10_most_L63
    simp (disch := omega) only [inputs_n hp tk.1 n8, Option.bind_some, aI_n, aL_n, aQ_n, sA_n, sL_n, csA_n, i_0, i_1, i_2, i_3, i_4, i_5, i_6, i_7, i_8, i_9, i_10, i_11, i_12, i_13, i_16, i_20, i_21, i_22, i_31, i_99, i_100, i_256, i_1000, nI_eq, nI_leI, nI_ltI, nI_add, pk_mul, ↓reduceIte, nt_le, nf_le, nt_lt, nf_lt, nt_eq, nf_eq, meet_N', meet_P', meet_S', meet_Z', meet_B', meet_O', n_1, n_2, n_3, n_4, n_5, n_10, n_11]

theorem mostX {o : Nat} {z : CS} {r : RS} {a1 a2 a3 : Int32} (h : Sim o z r) : (∃ c z1 r1, fX9_findingOfMost o z a1 a2 a3 = some (c, z1) ∧ ¬ c = nI 0 ∧ ¬ nI 0 ≤ c ∧ fX10_most r a1 a2 a3 = some (c, r1) ∧ Sim o z1 r1) ∨ ∃ q ob z1 r1, fX9_findingOfMost o z a1 a2 a3 = some (nI 0, z) ∧ aQ 8 (z.2.2.1 1) a1 = some (some q) ∧ fX0_leastGreatest o z q a2 a3 = some (fs1 ob, z1) ∧ (∀ u, ob = some u → u.1 < 256 ∧ u.2 < 256 ∧ ∃ z2, fX0_measure o z1 q a2 (nI u.1) = some (nI u.2, z2) ∧ Sim o z2 r1) ∧ fX10_most r a1 a2 a3 = some (if nI 0 ≤ fs2 ob then fs2 ob else nI 0, r1) ∧ r1.1 6 = fs1 ob ∧ Sim o z1 r1 := by
  obtain ⟨h1, h2, h3, h4, h5, h6, h7, -⟩ := id h
  have hs : Sim o z (rI r 6 (-nI 1)) := Sim_rq h RQ.rf.i6
  have neg2 : ¬ -nI 2 = nI 0 := by decide
  have neg2' : ¬ nI 0 ≤ -nI 2 := by decide
  have bad : (fX9_findingOfMost o z a1 a2 a3 = some (-nI 2, z) ∧ fX10_most r a1 a2 a3 = some (-nI 2, rI r 6 (-nI 1))) ∨ ∃ w sd, w ≤ 2 ∧ sd ≤ 2 ∧ a2 = nI w ∧ a3 = nI sd := by
    unfold fX9_findingOfMost fX9_findingOfMost_J18 fX10_most fX10_most_J30
    rcases ix a2 (n := 3) (by omega) with hx | ⟨w, hw, rfl⟩
    · left
      by_cases h0 : a2 < nI 0
      · refine ⟨by simp (disch := omega) only [h0, Option.bind_some, aI_n, aL_n, aQ_n, sA_n, sL_n, csA_n, i_0, i_1, i_2, i_3, i_4, i_5, i_6, i_7, i_8, i_9, i_10, i_11, i_12, i_13, i_16, i_20, i_21, i_22, i_31, i_99, i_100, i_256, i_1000, nI_eq, nI_leI, nI_ltI, nI_add, pk_mul, ↓reduceIte, nt_le, nf_le, nt_lt, nf_lt, nt_eq, nf_eq, meet_N', meet_P', meet_S', meet_Z', meet_B', meet_O', n_1, n_2, n_3, n_4, n_5, n_10, n_11], ?_⟩
        rcases ix a1 (n := 8) (by omega) with hx1 | ⟨k, hk, rfl⟩
        · simp (disch := omega) only [isPl10_out hx1, Option.bind_some, aI_n, aL_n, aQ_n, sA_n, sL_n, csA_n, i_0, i_1, i_2, i_3, i_4, i_5, i_6, i_7, i_8, i_9, i_10, i_11, i_12, i_13, i_16, i_20, i_21, i_22, i_31, i_99, i_100, i_256, i_1000, nI_eq, nI_leI, nI_ltI, nI_add, pk_mul, ↓reduceIte, nt_le, nf_le, nt_lt, nf_lt, nt_eq, nf_eq, meet_N', meet_P', meet_S', meet_Z', meet_B', meet_O', n_1, n_2, n_3, n_4, n_5, n_10, n_11]
        · simp (disch := omega) only [isPl10_in hk, h0, Option.bind_some, aI_n, aL_n, aQ_n, sA_n, sL_n, csA_n, i_0, i_1, i_2, i_3, i_4, i_5, i_6, i_7, i_8, i_9, i_10, i_11, i_12, i_13, i_16, i_20, i_21, i_22, i_31, i_99, i_100, i_256, i_1000, nI_eq, nI_leI, nI_ltI, nI_add, pk_mul, ↓reduceIte, nt_le, nf_le, nt_lt, nf_lt, nt_eq, nf_eq, meet_N', meet_P', meet_S', meet_Z', meet_B', meet_O', n_1, n_2, n_3, n_4, n_5, n_10, n_11]
      · have c2 : nI 2 < a2 := by
          have := Int32.le_iff_toInt_le.mp (hx.resolve_left h0)
          exact Int32.lt_iff_toInt_lt.mpr (by rw [nI_toInt (by omega)] at this ⊢; omega)
        refine ⟨by simp (disch := omega) only [h0, c2, Option.bind_some, aI_n, aL_n, aQ_n, sA_n, sL_n, csA_n, i_0, i_1, i_2, i_3, i_4, i_5, i_6, i_7, i_8, i_9, i_10, i_11, i_12, i_13, i_16, i_20, i_21, i_22, i_31, i_99, i_100, i_256, i_1000, nI_eq, nI_leI, nI_ltI, nI_add, pk_mul, ↓reduceIte, nt_le, nf_le, nt_lt, nf_lt, nt_eq, nf_eq, meet_N', meet_P', meet_S', meet_Z', meet_B', meet_O', n_1, n_2, n_3, n_4, n_5, n_10, n_11], ?_⟩
        rcases ix a1 (n := 8) (by omega) with hx1 | ⟨k, hk, rfl⟩
        · simp (disch := omega) only [isPl10_out hx1, Option.bind_some, aI_n, aL_n, aQ_n, sA_n, sL_n, csA_n, i_0, i_1, i_2, i_3, i_4, i_5, i_6, i_7, i_8, i_9, i_10, i_11, i_12, i_13, i_16, i_20, i_21, i_22, i_31, i_99, i_100, i_256, i_1000, nI_eq, nI_leI, nI_ltI, nI_add, pk_mul, ↓reduceIte, nt_le, nf_le, nt_lt, nf_lt, nt_eq, nf_eq, meet_N', meet_P', meet_S', meet_Z', meet_B', meet_O', n_1, n_2, n_3, n_4, n_5, n_10, n_11]
        · simp (disch := omega) only [isPl10_in hk, h0, c2, Option.bind_some, aI_n, aL_n, aQ_n, sA_n, sL_n, csA_n, i_0, i_1, i_2, i_3, i_4, i_5, i_6, i_7, i_8, i_9, i_10, i_11, i_12, i_13, i_16, i_20, i_21, i_22, i_31, i_99, i_100, i_256, i_1000, nI_eq, nI_leI, nI_ltI, nI_add, pk_mul, ↓reduceIte, nt_le, nf_le, nt_lt, nf_lt, nt_eq, nf_eq, meet_N', meet_P', meet_S', meet_Z', meet_B', meet_O', n_1, n_2, n_3, n_4, n_5, n_10, n_11]
    rcases ix a3 (n := 3) (by omega) with hx | ⟨sd, hsd, rfl⟩
    · left
      by_cases h0 : a3 < nI 0
      · refine ⟨by simp (disch := omega) only [h0, Option.bind_some, aI_n, aL_n, aQ_n, sA_n, sL_n, csA_n, i_0, i_1, i_2, i_3, i_4, i_5, i_6, i_7, i_8, i_9, i_10, i_11, i_12, i_13, i_16, i_20, i_21, i_22, i_31, i_99, i_100, i_256, i_1000, nI_eq, nI_leI, nI_ltI, nI_add, pk_mul, ↓reduceIte, nt_le, nf_le, nt_lt, nf_lt, nt_eq, nf_eq, meet_N', meet_P', meet_S', meet_Z', meet_B', meet_O', n_1, n_2, n_3, n_4, n_5, n_10, n_11], ?_⟩
        rcases ix a1 (n := 8) (by omega) with hx1 | ⟨k, hk, rfl⟩
        · simp (disch := omega) only [isPl10_out hx1, Option.bind_some, aI_n, aL_n, aQ_n, sA_n, sL_n, csA_n, i_0, i_1, i_2, i_3, i_4, i_5, i_6, i_7, i_8, i_9, i_10, i_11, i_12, i_13, i_16, i_20, i_21, i_22, i_31, i_99, i_100, i_256, i_1000, nI_eq, nI_leI, nI_ltI, nI_add, pk_mul, ↓reduceIte, nt_le, nf_le, nt_lt, nf_lt, nt_eq, nf_eq, meet_N', meet_P', meet_S', meet_Z', meet_B', meet_O', n_1, n_2, n_3, n_4, n_5, n_10, n_11]
        · simp (disch := omega) only [isPl10_in hk, h0, Option.bind_some, aI_n, aL_n, aQ_n, sA_n, sL_n, csA_n, i_0, i_1, i_2, i_3, i_4, i_5, i_6, i_7, i_8, i_9, i_10, i_11, i_12, i_13, i_16, i_20, i_21, i_22, i_31, i_99, i_100, i_256, i_1000, nI_eq, nI_leI, nI_ltI, nI_add, pk_mul, ↓reduceIte, nt_le, nf_le, nt_lt, nf_lt, nt_eq, nf_eq, meet_N', meet_P', meet_S', meet_Z', meet_B', meet_O', n_1, n_2, n_3, n_4, n_5, n_10, n_11]
      · have c2 : ¬ a3 ≤ nI 2 := out4 (m := 2) (by omega) hx h0
        refine ⟨by simp (disch := omega) only [h0, c2, Option.bind_some, aI_n, aL_n, aQ_n, sA_n, sL_n, csA_n, i_0, i_1, i_2, i_3, i_4, i_5, i_6, i_7, i_8, i_9, i_10, i_11, i_12, i_13, i_16, i_20, i_21, i_22, i_31, i_99, i_100, i_256, i_1000, nI_eq, nI_leI, nI_ltI, nI_add, pk_mul, ↓reduceIte, nt_le, nf_le, nt_lt, nf_lt, nt_eq, nf_eq, meet_N', meet_P', meet_S', meet_Z', meet_B', meet_O', n_1, n_2, n_3, n_4, n_5, n_10, n_11], ?_⟩
        rcases ix a1 (n := 8) (by omega) with hx1 | ⟨k, hk, rfl⟩
        · simp (disch := omega) only [isPl10_out hx1, Option.bind_some, aI_n, aL_n, aQ_n, sA_n, sL_n, csA_n, i_0, i_1, i_2, i_3, i_4, i_5, i_6, i_7, i_8, i_9, i_10, i_11, i_12, i_13, i_16, i_20, i_21, i_22, i_31, i_99, i_100, i_256, i_1000, nI_eq, nI_leI, nI_ltI, nI_add, pk_mul, ↓reduceIte, nt_le, nf_le, nt_lt, nf_lt, nt_eq, nf_eq, meet_N', meet_P', meet_S', meet_Z', meet_B', meet_O', n_1, n_2, n_3, n_4, n_5, n_10, n_11]
        · simp (disch := omega) only [isPl10_in hk, h0, c2, Option.bind_some, aI_n, aL_n, aQ_n, sA_n, sL_n, csA_n, i_0, i_1, i_2, i_3, i_4, i_5, i_6, i_7, i_8, i_9, i_10, i_11, i_12, i_13, i_16, i_20, i_21, i_22, i_31, i_99, i_100, i_256, i_1000, nI_eq, nI_leI, nI_ltI, nI_add, pk_mul, ↓reduceIte, nt_le, nf_le, nt_lt, nf_lt, nt_eq, nf_eq, meet_N', meet_P', meet_S', meet_Z', meet_B', meet_O', n_1, n_2, n_3, n_4, n_5, n_10, n_11]
    · exact Or.inr ⟨w, sd, by omega, by omega, rfl, rfl⟩
  rcases bad with ⟨q1, q2⟩ | ⟨w, sd, hw, hsd, rfl, rfl⟩
  · exact Or.inl ⟨_, _, _, q1, neg2, neg2', q2, hs⟩
  unfold fX9_findingOfMost fX10_most fX10_most_J30
  rcases plc h3 a1 with hx | ⟨k, hk, rfl, e, e'⟩ | ⟨k, q, n, kd, wt, g, b, hk, rfl, e, t1, t2, n1, n8, hg, d1, d2, d3, p2, p1⟩
  · refine Or.inl ⟨-nI 2, z, rI r 6 (-nI 1), ?_, neg2, neg2', ?_, hs⟩
    · simp (disch := omega) only [told9_out hx, Option.bind_some, aI_n, aL_n, aQ_n, sA_n, sL_n, csA_n, i_0, i_1, i_2, i_3, i_4, i_5, i_6, i_7, i_8, i_9, i_10, i_11, i_12, i_13, i_16, i_20, i_21, i_22, i_31, i_99, i_100, i_256, i_1000, nI_eq, nI_leI, nI_ltI, nI_add, pk_mul, ↓reduceIte, nt_le, nf_le, nt_lt, nf_lt, nt_eq, nf_eq, meet_N', meet_P', meet_S', meet_Z', meet_B', meet_O', n_1, n_2, n_3, n_4, n_5, n_10, n_11]
    · simp (disch := omega) only [isPl10_out hx, Option.bind_some, aI_n, aL_n, aQ_n, sA_n, sL_n, csA_n, i_0, i_1, i_2, i_3, i_4, i_5, i_6, i_7, i_8, i_9, i_10, i_11, i_12, i_13, i_16, i_20, i_21, i_22, i_31, i_99, i_100, i_256, i_1000, nI_eq, nI_leI, nI_ltI, nI_add, pk_mul, ↓reduceIte, nt_le, nf_le, nt_lt, nf_lt, nt_eq, nf_eq, meet_N', meet_P', meet_S', meet_Z', meet_B', meet_O', n_1, n_2, n_3, n_4, n_5, n_10, n_11]
  · refine Or.inl ⟨-nI 10, _, _, ?_, by decide, by decide, ?_, Sim_met hs⟩
    · simp (disch := omega) only [told9_no hk e, Option.bind_some, aI_n, aL_n, aQ_n, sA_n, sL_n, csA_n, i_0, i_1, i_2, i_3, i_4, i_5, i_6, i_7, i_8, i_9, i_10, i_11, i_12, i_13, i_16, i_20, i_21, i_22, i_31, i_99, i_100, i_256, i_1000, nI_eq, nI_leI, nI_ltI, nI_add, pk_mul, ↓reduceIte, nt_le, nf_le, nt_lt, nf_lt, nt_eq, nf_eq, meet_N', meet_P', meet_S', meet_Z', meet_B', meet_O', n_1, n_2, n_3, n_4, n_5, n_10, n_11] <;> rfl
    · simp (disch := omega) only [isPl10_in hk, askT_no (r := rI r 6 (-nI 1)) hk e', Option.bind_some, aI_n, aL_n, aQ_n, sA_n, sL_n, csA_n, i_0, i_1, i_2, i_3, i_4, i_5, i_6, i_7, i_8, i_9, i_10, i_11, i_12, i_13, i_16, i_20, i_21, i_22, i_31, i_99, i_100, i_256, i_1000, nI_eq, nI_leI, nI_ltI, nI_add, pk_mul, ↓reduceIte, nt_le, nf_le, nt_lt, nf_lt, nt_eq, nf_eq, meet_N', meet_P', meet_S', meet_Z', meet_B', meet_O', n_1, n_2, n_3, n_4, n_5, n_10, n_11] <;> rfl
  · have hk16 : k < 16 := by omega
    have f1 := told9_yes (o := o) hk e t1
    have f2 := askT_yes (r := rI r 6 (-nI 1)) hk t2 n1 n8 hg
    by_cases ht : cnt g 2 (2 ^ n) = 0
    · rw [if_pos ht] at f1 f2
      right
      obtain ⟨r', v1, v2⟩ := tell_n (r := rI r 6 (-nI 1)) h7 hk16 t2 hg n8
      have t2' : TkR r' k n kd wt g := RSame.tk (r := r) ⟨by rw [v2.2.2.1 0 (by omega)]; rfl, by rw [v2.2.2.1 1 (by omega)]; rfl, by rw [v2.2.2.1 2 (by omega)]; rfl, fun x _ => by rw [v2.2.2.1 3 (by omega)]; rfl⟩ n8 t2
      have r6 : r'.1 6 = -nI 1 := by rw [v2.1, rI_e]
      have mm : ∀ x, ∃ v, x < 2 ^ n → v ≤ n ∧ (∀ y, ZQ z y → ∃ y', fX0_measure o y q (nI w) (nI x) = some (nI v, y') ∧ ZQ z y') ∧ ∀ rr, RQ r' rr → ∃ r2, fX10_settles rr (nI k) (nI w) (nI x) = some (nI v, r2) ∧ RQ r' r2 ∧ r2.1 6 = rr.1 6 := by
        intro x
        by_cases hx : x < 2 ^ n
        · obtain ⟨v, m⟩ := meas_n (o := o) (w := w) hk16 hw (v2.pw h7) ⟨rfl, rfl, fun _ _ => rfl, v2.2.2.2⟩ t1 t2' d1 n8 hg (told_le hg ht) hx
          exact ⟨v, fun _ => m⟩
        · exact ⟨0, fun w => absurd w hx⟩
      obtain ⟨V, hV⟩ := Classical.axiomOfChoice mm
      obtain ⟨z1, a1, a2⟩ := lg_n (o := o) (w := w) n8 n1 hsd hg t1 d1 (fun x hx => ⟨(hV x hx).1, (hV x hx).2.1⟩)
      obtain ⟨e7, b1, b2, b3, b4⟩ := mo_n (w := w) hk16 n8 hsd hg t2' r6 (fun x hx => ⟨(hV x hx).1, (hV x hx).2.2⟩)
      have hs1 : Sim o z e7.2 := Sim_rq (v2.sim hs) b3
      refine ⟨q, bst V g sd (2 ^ n), z1, e7.2, ?_, ?_, a1, fun u hu => ?_, ?_, b4, Sim_zq hs1 a2⟩
      · simp (disch := omega) only [f1, Option.bind_some, aI_n, aL_n, aQ_n, sA_n, sL_n, csA_n, i_0, i_1, i_2, i_3, i_4, i_5, i_6, i_7, i_8, i_9, i_10, i_11, i_12, i_13, i_16, i_20, i_21, i_22, i_31, i_99, i_100, i_256, i_1000, nI_eq, nI_leI, nI_ltI, nI_add, pk_mul, ↓reduceIte, nt_le, nf_le, nt_lt, nf_lt, nt_eq, nf_eq, meet_N', meet_P', meet_S', meet_Z', meet_B', meet_O', n_1, n_2, n_3, n_4, n_5, n_10, n_11]
      · rw [aQ_n _ hk (by omega), e]
      · have uv := bst_v _ _ hu
        have m := hV u.1 uv.1
        obtain ⟨z2, c1, c2⟩ := m.2.1 z1 a2
        rw [← uv.2] at c1
        have := m.1
        exact ⟨by omega, by omega, z2, c1, Sim_zq hs1 c2⟩
      · simp (disch := omega) only [isPl10_in hk, f2, v1, b1, Option.bind_some, aI_n, aL_n, aQ_n, sA_n, sL_n, csA_n, i_0, i_1, i_2, i_3, i_4, i_5, i_6, i_7, i_8, i_9, i_10, i_11, i_12, i_13, i_16, i_20, i_21, i_22, i_31, i_99, i_100, i_256, i_1000, nI_eq, nI_leI, nI_ltI, nI_add, pk_mul, ↓reduceIte, nt_le, nf_le, nt_lt, nf_lt, nt_eq, nf_eq, meet_N', meet_P', meet_S', meet_Z', meet_B', meet_O', n_1, n_2, n_3, n_4, n_5, n_10, n_11]
        rw [b2]
        split <;> rfl
    · rw [if_neg ht] at f1 f2
      refine Or.inl ⟨-nI 4, z, rI r 6 (-nI 1), ?_, by decide, by decide, ?_, hs⟩
      · simp (disch := omega) only [f1, Option.bind_some, aI_n, aL_n, aQ_n, sA_n, sL_n, csA_n, i_0, i_1, i_2, i_3, i_4, i_5, i_6, i_7, i_8, i_9, i_10, i_11, i_12, i_13, i_16, i_20, i_21, i_22, i_31, i_99, i_100, i_256, i_1000, nI_eq, nI_leI, nI_ltI, nI_add, pk_mul, ↓reduceIte, nt_le, nf_le, nt_lt, nf_lt, nt_eq, nf_eq, meet_N', meet_P', meet_S', meet_Z', meet_B', meet_O', n_1, n_2, n_3, n_4, n_5, n_10, n_11] <;> rfl
      · simp (disch := omega) only [isPl10_in hk, f2, Option.bind_some, aI_n, aL_n, aQ_n, sA_n, sL_n, csA_n, i_0, i_1, i_2, i_3, i_4, i_5, i_6, i_7, i_8, i_9, i_10, i_11, i_12, i_13, i_16, i_20, i_21, i_22, i_31, i_99, i_100, i_256, i_1000, nI_eq, nI_leI, nI_ltI, nI_add, pk_mul, ↓reduceIte, nt_le, nf_le, nt_lt, nf_lt, nt_eq, nf_eq, meet_N', meet_P', meet_S', meet_Z', meet_B', meet_O', n_1, n_2, n_3, n_4, n_5, n_10, n_11] <;> rfl
theorem St_most_ok : St_most Sim := by
  intro o z r a1 a2 a3 h
  unfold fX9_most
  rcases mostX (a1 := a1) (a2 := a2) (a3 := a3) h with ⟨c, z1, r1, e1, e2, e3, e4, e5⟩ | ⟨q, ob, z1, r1, e1, e2, e3, e4, e5, e6, e7⟩
  · refine ⟨(c, z1), (c, r1), ?_, e4, rfl, e5⟩
    simp (disch := omega) only [e1, e2, Option.bind_some, aI_n, aL_n, aQ_n, sA_n, sL_n, csA_n, i_0, i_1, i_2, i_3, i_4, i_5, i_6, i_7, i_8, i_9, i_10, i_11, i_12, i_13, i_16, i_20, i_21, i_22, i_31, i_99, i_100, i_256, i_1000, nI_eq, nI_leI, nI_ltI, nI_add, pk_mul, ↓reduceIte, nt_le, nf_le, nt_lt, nf_lt, nt_eq, nf_eq, meet_N', meet_P', meet_S', meet_Z', meet_B', meet_O', n_1, n_2, n_3, n_4, n_5, n_10, n_11]
  · cases ob with
    | none =>
      have c : ¬ nI 0 ≤ fs2 none := by decide
      rw [if_neg c] at e5
      refine ⟨(nI 0, z1), (nI 0, r1), ?_, e5, rfl, e7⟩
      simp (disch := omega) only [e1, e2, e3, fs1, mnI', Option.bind_some, aI_n, aL_n, aQ_n, sA_n, sL_n, csA_n, i_0, i_1, i_2, i_3, i_4, i_5, i_6, i_7, i_8, i_9, i_10, i_11, i_12, i_13, i_16, i_20, i_21, i_22, i_31, i_99, i_100, i_256, i_1000, nI_eq, nI_leI, nI_ltI, nI_add, pk_mul, ↓reduceIte, nt_le, nf_le, nt_lt, nf_lt, nt_eq, nf_eq, meet_N', meet_P', meet_S', meet_Z', meet_B', meet_O', n_1, n_2, n_3, n_4, n_5, n_10, n_11]
    | some u =>
      obtain ⟨u1, u2, z2, m1, m2⟩ := e4 u rfl
      have c : nI 0 ≤ fs2 (some u) := nI_le (Nat.zero_le _) (by omega)
      rw [if_pos c] at e5
      refine ⟨(nI u.2, z2), (nI u.2, r1), ?_, e5, rfl, m2⟩
      simp (disch := omega) only [e1, e2, e3, fs1, mnI u.1 (by omega), m1, Option.bind_some, aI_n, aL_n, aQ_n, sA_n, sL_n, csA_n, i_0, i_1, i_2, i_3, i_4, i_5, i_6, i_7, i_8, i_9, i_10, i_11, i_12, i_13, i_16, i_20, i_21, i_22, i_31, i_99, i_100, i_256, i_1000, nI_eq, nI_leI, nI_ltI, nI_add, pk_mul, ↓reduceIte, nt_le, nf_le, nt_lt, nf_lt, nt_eq, nf_eq, meet_N', meet_P', meet_S', meet_Z', meet_B', meet_O', n_1, n_2, n_3, n_4, n_5, n_10, n_11]
theorem St_where_ok : St_where Sim := by
  intro o z r a1 a2 a3 h
  unfold fX9_where fX10_where
  rcases mostX (a1 := a1) (a2 := a2) (a3 := a3) h with ⟨c, z1, r1, e1, e2, e3, e4, e5⟩ | ⟨q, ob, z1, r1, e1, e2, e3, e4, e5, e6, e7⟩
  · refine ⟨(c, z1), (c, r1), ?_, ?_, rfl, e5⟩
    · simp (disch := omega) only [e1, e2, Option.bind_some, aI_n, aL_n, aQ_n, sA_n, sL_n, csA_n, i_0, i_1, i_2, i_3, i_4, i_5, i_6, i_7, i_8, i_9, i_10, i_11, i_12, i_13, i_16, i_20, i_21, i_22, i_31, i_99, i_100, i_256, i_1000, nI_eq, nI_leI, nI_ltI, nI_add, pk_mul, ↓reduceIte, nt_le, nf_le, nt_lt, nf_lt, nt_eq, nf_eq, meet_N', meet_P', meet_S', meet_Z', meet_B', meet_O', n_1, n_2, n_3, n_4, n_5, n_10, n_11]
    · simp (disch := omega) only [e4, e3, Option.bind_some, aI_n, aL_n, aQ_n, sA_n, sL_n, csA_n, i_0, i_1, i_2, i_3, i_4, i_5, i_6, i_7, i_8, i_9, i_10, i_11, i_12, i_13, i_16, i_20, i_21, i_22, i_31, i_99, i_100, i_256, i_1000, nI_eq, nI_leI, nI_ltI, nI_add, pk_mul, ↓reduceIte, nt_le, nf_le, nt_lt, nf_lt, nt_eq, nf_eq, meet_N', meet_P', meet_S', meet_Z', meet_B', meet_O', n_1, n_2, n_3, n_4, n_5, n_10, n_11]
  · refine ⟨(fs1 ob, z1), (fs1 ob, r1), ?_, ?_, rfl, e7⟩
    · simp (disch := omega) only [e1, e2, e3, Option.bind_some, aI_n, aL_n, aQ_n, sA_n, sL_n, csA_n, i_0, i_1, i_2, i_3, i_4, i_5, i_6, i_7, i_8, i_9, i_10, i_11, i_12, i_13, i_16, i_20, i_21, i_22, i_31, i_99, i_100, i_256, i_1000, nI_eq, nI_leI, nI_ltI, nI_add, pk_mul, ↓reduceIte, nt_le, nf_le, nt_lt, nf_lt, nt_eq, nf_eq, meet_N', meet_P', meet_S', meet_Z', meet_B', meet_O', n_1, n_2, n_3, n_4, n_5, n_10, n_11]
    · have c : nI 0 ≤ (if nI 0 ≤ fs2 ob then fs2 ob else nI 0) := by
        split
        · assumption
        · decide
      simp (disch := omega) only [e5, c, e6, Option.bind_some, aI_n, aL_n, aQ_n, sA_n, sL_n, csA_n, i_0, i_1, i_2, i_3, i_4, i_5, i_6, i_7, i_8, i_9, i_10, i_11, i_12, i_13, i_16, i_20, i_21, i_22, i_31, i_99, i_100, i_256, i_1000, nI_eq, nI_leI, nI_ltI, nI_add, pk_mul, ↓reduceIte, nt_le, nf_le, nt_lt, nf_lt, nt_eq, nf_eq, meet_N', meet_P', meet_S', meet_Z', meet_B', meet_O', n_1, n_2, n_3, n_4, n_5, n_10, n_11]
