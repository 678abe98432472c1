/-! ===== read: formulas ===== -/
def kdv (v : Int32) : Nat := if ¬ v < nI 0 ∧ v < nI 8 then v.toNatClampNeg else if v = nI 10 then 10 else if v = nI 11 then 11 else if v = nI 12 then 12 else 99
theorem kc (v : Int32) : (∃ k, k < 8 ∧ v = nI k ∧ kdv v = k) ∨ (v < 0 ∨ nI 8 ≤ v) ∧ ((v = nI 10 ∧ kdv v = 10) ∨ (v = nI 11 ∧ kdv v = 11) ∨ (v = nI 12 ∧ kdv v = 12) ∨ (¬ v = nI 10 ∧ ¬ v = nI 11 ∧ ¬ v = nI 12 ∧ kdv v = 99)) := by
  rcases ix v (n := 8) (by omega) with hx | ⟨k, hk, rfl⟩
  · refine Or.inr ⟨hx, ?_⟩
    have h0 : ¬ (¬ v < nI 0 ∧ v < nI 8) := fun w => by
      rcases hx with a | a
      · exact w.1 a
      · exact ge_nlt (by omega) a w.2
    unfold kdv
    rw [if_neg h0]
    by_cases a : v = nI 10
    · exact Or.inl ⟨a, by rw [if_pos a]⟩
    · by_cases b : v = nI 11
      · exact Or.inr (Or.inl ⟨b, by rw [if_neg a, if_pos b]⟩)
      · by_cases c : v = nI 12
        · exact Or.inr (Or.inr (Or.inl ⟨c, by rw [if_neg a, if_neg b, if_pos c]⟩))
        · exact Or.inr (Or.inr (Or.inr ⟨a, b, c, by rw [if_neg a, if_neg b, if_neg c]⟩))
  · refine Or.inl ⟨k, hk, rfl, ?_⟩
    unfold kdv
    rw [if_pos ⟨nI_nlt0 (by omega), nI_lt hk (by omega)⟩, nI_clamp (by omega)]
/-- the class's reading: which bits stand, how deep -/
def stF (K : Nat → Nat) : Nat → Option (Nat × Nat)
  | 0 => some (0, 0)
  | i + 1 => match stF K i with
    | none => none
    | some u => if K i < 8 then (if bt u.1 (K i) = 1 then none else some (u.1 + 2 ^ K i, u.2 + 1)) else if K i = 10 ∨ K i = 11 then (if u.2 < 2 then none else some (u.1, u.2 - 1)) else if K i = 12 then (if u.2 < 1 then none else some u) else none
theorem stF_s {K : Nat → Nat} {i : Nat} {u : Nat × Nat} (h : stF K i = some u) : stF K (i + 1) = if K i < 8 then (if bt u.1 (K i) = 1 then none else some (u.1 + 2 ^ K i, u.2 + 1)) else if K i = 10 ∨ K i = 11 then (if u.2 < 2 then none else some (u.1, u.2 - 1)) else if K i = 12 then (if u.2 < 1 then none else some u) else none := by
  show (match stF K i with | none => none | some u => _) = _
  rw [h]
theorem stF_n {K : Nat → Nat} {i : Nat} (h : stF K i = none) : ∀ k, stF K (i + k) = none := by
  intro k
  induction k with
  | zero => exact h
  | succ k ih =>
    show (match stF K (i + k) with | none => none | some u => _) = _
    rw [ih]
theorem stF_b {K : Nat → Nat} : ∀ i u, stF K i = some u → u.1 < 256 ∧ u.2 ≤ pop u.1 ∧ u.2 ≤ i := by
  intro i
  induction i with
  | zero =>
    intro u h
    obtain rfl := Option.some.inj h
    exact ⟨by show 0 < 256; omega, by show 0 ≤ pop 0; omega, Nat.le_refl _⟩
  | succ i ih =>
    intro u h
    cases e : stF K i with
    | none =>
      have := stF_n e 1
      rw [this] at h; cases h
    | some u' =>
      obtain ⟨b1, b2, b3⟩ := ih u' e
      rw [stF_s e] at h
      by_cases k8 : K i < 8
      · rw [if_pos k8] at h
        have bl := bt_lt u'.1 (K i)
        by_cases bb : bt u'.1 (K i) = 1
        · rw [if_pos bb] at h; cases h
        · rw [if_neg bb] at h
          obtain rfl := Option.some.inj h
          have f := fall2 u'.1 b1 (K i) k8 (show bt u'.1 (K i) = 0 by omega)
          exact ⟨f.1, by show u'.2 + 1 ≤ pop (u'.1 + 2 ^ K i); rw [f.2.2.1]; omega, by show u'.2 + 1 ≤ i + 1; omega⟩
      · rw [if_neg k8] at h
        by_cases k10 : K i = 10 ∨ K i = 11
        · rw [if_pos k10] at h
          by_cases d2 : u'.2 < 2
          · rw [if_pos d2] at h; cases h
          · rw [if_neg d2] at h
            obtain rfl := Option.some.inj h
            exact ⟨b1, by show u'.2 - 1 ≤ pop u'.1; omega, by show u'.2 - 1 ≤ i + 1; omega⟩
        · rw [if_neg k10] at h
          by_cases k12 : K i = 12
          · rw [if_pos k12] at h
            by_cases d1 : u'.2 < 1
            · rw [if_pos d1] at h; cases h
            · rw [if_neg d1] at h
              obtain rfl := Option.some.inj h
              exact ⟨b1, b2, by omega⟩
          · rw [if_neg k12] at h; cases h
/-- the class reads -/
theorem bitsF {o : Nat} {z : CS} {w : Nat} {V : Nat → Int32} (hw : w ≤ 100) (h1 : z.1 1 = nI w) (hV : ∀ k, k < w → z.2.1 0 k = V k) : ∃ e, lpN (fun u => fX9_bitsOfFormula_L6 o z u.1 u.2.1 u.2.2) bigN (nI 0, nI 0, nI 0) = some e ∧ ((∃ u, stF (fun i => kdv (V i)) w = some u ∧ e = .inl (nI u.1, nI u.2)) ∨ (stF (fun i => kdv (V i)) w = none ∧ e = .inr (-nI 2))) := by
  refine lp_upto (fun i st => ∃ u, stF (fun i => kdv (V i)) i = some u ∧ st = (nI u.1, nI u.2, nI i)) w _ (bigN_gt (by omega)) (fun i st hi hst => ?_) (fun st hst => ?_) ⟨(0, 0), rfl, rfl⟩
  · obtain ⟨u, hu, rfl⟩ := hst
    obtain ⟨b1, b2, b3⟩ := stF_b i u hu
    have pl := pop_le u.1
    have bad : stF (fun i => kdv (V i)) (i + 1) = none → stF (fun i => kdv (V i)) w = none := fun q => by
      have := stF_n q (w - (i + 1))
      rw [show i + 1 + (w - (i + 1)) = w by omega] at this
      exact this
    have ss := stF_s hu
    have hVi := hV i hi
    unfold fX9_bitsOfFormula_L6
    rcases kc (V i) with ⟨k, hk, ek, kk⟩ | ⟨hx, hc⟩
    · rw [kk, if_pos hk] at ss
      have bl := bt_lt u.1 k
      by_cases bb : bt u.1 k = 1
      · right
        rw [if_pos bb] at ss
        refine ⟨.inr (-nI 2), ?_, Or.inr ⟨bad ss, rfl⟩⟩
        unfold fX9_bitsOfFormula_L6_J56 fX9_bitsOfFormula_L6_J81 fX9_bitsOfFormula_L6_J93
        simp (disch := omega) only [h1, hVi, ek, bitB (show u.1 < 2 ^ 31 by omega) (show k < 32 by omega), bb, Option.bind_some, aI_n, aL_n, aQ_n, sA_n, sL_n, csA_n, i_0, i_1, i_2, i_3, i_4, i_5, i_6, i_7, i_8, i_9, i_10, i_11, i_12, i_13, i_16, i_20, i_21, i_22, i_31, i_99, i_100, i_256, i_1000, nI_eq, nI_leI, nI_ltI, nI_add, pk_mul, ↓reduceIte, nt_le, nf_le, nt_lt, nf_lt, nt_eq, nf_eq, meet_N', meet_P', meet_S', meet_Z', meet_B', meet_O', n_1, n_2, n_3, n_4, n_5, n_10, n_11]
      · left
        rw [if_neg bb] at ss
        have f := fall2 u.1 b1 k hk (show bt u.1 k = 0 by omega)
        refine ⟨_, ?_, _, ss, rfl⟩
        unfold fX9_bitsOfFormula_L6_J96
        simp (disch := omega) only [h1, hVi, ek, bitB (show u.1 < 2 ^ 31 by omega) (show k < 32 by omega), shl1' k (by omega), nI_or, f.2.2.2, Option.bind_some, aI_n, aL_n, aQ_n, sA_n, sL_n, csA_n, i_0, i_1, i_2, i_3, i_4, i_5, i_6, i_7, i_8, i_9, i_10, i_11, i_12, i_13, i_16, i_20, i_21, i_22, i_31, i_99, i_100, i_256, i_1000, nI_eq, nI_leI, nI_ltI, nI_add, pk_mul, ↓reduceIte, nt_le, nf_le, nt_lt, nf_lt, nt_eq, nf_eq, meet_N', meet_P', meet_S', meet_Z', meet_B', meet_O', n_1, n_2, n_3, n_4, n_5, n_10, n_11]
    · have c8 : ¬ V i < nI 0 → nI 8 ≤ V i := fun q => hx.resolve_left q
      rcases hc with ⟨e, kk⟩ | ⟨e, kk⟩ | ⟨e, kk⟩ | ⟨e1, e2, e3, kk⟩
      · rw [kk, if_neg (by omega), if_pos (Or.inl rfl)] at ss
        by_cases d2 : u.2 < 2
        · right
          rw [if_pos d2] at ss
          refine ⟨.inr (-nI 2), ?_, Or.inr ⟨bad ss, rfl⟩⟩
          unfold fX9_bitsOfFormula_L6_J56 fX9_bitsOfFormula_L6_J70 fX9_bitsOfFormula_L6_J81 fX9_bitsOfFormula_L6_J93
          simp (disch := omega) only [h1, hVi, e, Option.bind_some, aI_n, aL_n, aQ_n, sA_n, sL_n, csA_n, i_0, i_1, i_2, i_3, i_4, i_5, i_6, i_7, i_8, i_9, i_10, i_11, i_12, i_13, i_16, i_20, i_21, i_22, i_31, i_99, i_100, i_256, i_1000, nI_eq, nI_leI, nI_ltI, nI_add, pk_mul, ↓reduceIte, nt_le, nf_le, nt_lt, nf_lt, nt_eq, nf_eq, meet_N', meet_P', meet_S', meet_Z', meet_B', meet_O', n_1, n_2, n_3, n_4, n_5, n_10, n_11]
        · left
          rw [if_neg d2] at ss
          refine ⟨_, ?_, _, ss, rfl⟩
          unfold fX9_bitsOfFormula_L6_J56 fX9_bitsOfFormula_L6_J70 fX9_bitsOfFormula_L6_J96
          simp (disch := omega) only [h1, hVi, e, m1_add, Option.bind_some, aI_n, aL_n, aQ_n, sA_n, sL_n, csA_n, i_0, i_1, i_2, i_3, i_4, i_5, i_6, i_7, i_8, i_9, i_10, i_11, i_12, i_13, i_16, i_20, i_21, i_22, i_31, i_99, i_100, i_256, i_1000, nI_eq, nI_leI, nI_ltI, nI_add, pk_mul, ↓reduceIte, nt_le, nf_le, nt_lt, nf_lt, nt_eq, nf_eq, meet_N', meet_P', meet_S', meet_Z', meet_B', meet_O', n_1, n_2, n_3, n_4, n_5, n_10, n_11]
      · rw [kk, if_neg (by omega), if_pos (Or.inr rfl)] at ss
        by_cases d2 : u.2 < 2
        · right
          rw [if_pos d2] at ss
          refine ⟨.inr (-nI 2), ?_, Or.inr ⟨bad ss, rfl⟩⟩
          unfold fX9_bitsOfFormula_L6_J56 fX9_bitsOfFormula_L6_J70 fX9_bitsOfFormula_L6_J81 fX9_bitsOfFormula_L6_J93
          simp (disch := omega) only [h1, hVi, e, Option.bind_some, aI_n, aL_n, aQ_n, sA_n, sL_n, csA_n, i_0, i_1, i_2, i_3, i_4, i_5, i_6, i_7, i_8, i_9, i_10, i_11, i_12, i_13, i_16, i_20, i_21, i_22, i_31, i_99, i_100, i_256, i_1000, nI_eq, nI_leI, nI_ltI, nI_add, pk_mul, ↓reduceIte, nt_le, nf_le, nt_lt, nf_lt, nt_eq, nf_eq, meet_N', meet_P', meet_S', meet_Z', meet_B', meet_O', n_1, n_2, n_3, n_4, n_5, n_10, n_11]
        · left
          rw [if_neg d2] at ss
          refine ⟨_, ?_, _, ss, rfl⟩
          unfold fX9_bitsOfFormula_L6_J56 fX9_bitsOfFormula_L6_J70 fX9_bitsOfFormula_L6_J96
          simp (disch := omega) only [h1, hVi, e, m1_add, Option.bind_some, aI_n, aL_n, aQ_n, sA_n, sL_n, csA_n, i_0, i_1, i_2, i_3, i_4, i_5, i_6, i_7, i_8, i_9, i_10, i_11, i_12, i_13, i_16, i_20, i_21, i_22, i_31, i_99, i_100, i_256, i_1000, nI_eq, nI_leI, nI_ltI, nI_add, pk_mul, ↓reduceIte, nt_le, nf_le, nt_lt, nf_lt, nt_eq, nf_eq, meet_N', meet_P', meet_S', meet_Z', meet_B', meet_O', n_1, n_2, n_3, n_4, n_5, n_10, n_11]
      · rw [kk, if_neg (by omega), if_neg (by omega), if_pos rfl] at ss
        by_cases d1 : u.2 < 1
        · right
          rw [if_pos d1] at ss
          refine ⟨.inr (-nI 2), ?_, Or.inr ⟨bad ss, rfl⟩⟩
          unfold fX9_bitsOfFormula_L6_J56 fX9_bitsOfFormula_L6_J81 fX9_bitsOfFormula_L6_J93
          simp (disch := omega) only [h1, hVi, e, Option.bind_some, aI_n, aL_n, aQ_n, sA_n, sL_n, csA_n, i_0, i_1, i_2, i_3, i_4, i_5, i_6, i_7, i_8, i_9, i_10, i_11, i_12, i_13, i_16, i_20, i_21, i_22, i_31, i_99, i_100, i_256, i_1000, nI_eq, nI_leI, nI_ltI, nI_add, pk_mul, ↓reduceIte, nt_le, nf_le, nt_lt, nf_lt, nt_eq, nf_eq, meet_N', meet_P', meet_S', meet_Z', meet_B', meet_O', n_1, n_2, n_3, n_4, n_5, n_10, n_11]
        · left
          rw [if_neg d1] at ss
          refine ⟨_, ?_, _, ss, rfl⟩
          unfold fX9_bitsOfFormula_L6_J56 fX9_bitsOfFormula_L6_J81 fX9_bitsOfFormula_L6_J96
          simp (disch := omega) only [h1, hVi, e, Option.bind_some, aI_n, aL_n, aQ_n, sA_n, sL_n, csA_n, i_0, i_1, i_2, i_3, i_4, i_5, i_6, i_7, i_8, i_9, i_10, i_11, i_12, i_13, i_16, i_20, i_21, i_22, i_31, i_99, i_100, i_256, i_1000, nI_eq, nI_leI, nI_ltI, nI_add, pk_mul, ↓reduceIte, nt_le, nf_le, nt_lt, nf_lt, nt_eq, nf_eq, meet_N', meet_P', meet_S', meet_Z', meet_B', meet_O', n_1, n_2, n_3, n_4, n_5, n_10, n_11]
      · rw [kk, if_neg (by omega), if_neg (by omega), if_neg (by omega)] at ss
        right
        refine ⟨.inr (-nI 2), ?_, Or.inr ⟨bad ss, rfl⟩⟩
        by_cases q : V i < nI 0
        · unfold fX9_bitsOfFormula_L6_J56 fX9_bitsOfFormula_L6_J81 fX9_bitsOfFormula_L6_J93
          simp (disch := omega) only [h1, hVi, q, e1, e2, e3, Option.bind_some, aI_n, aL_n, aQ_n, sA_n, sL_n, csA_n, i_0, i_1, i_2, i_3, i_4, i_5, i_6, i_7, i_8, i_9, i_10, i_11, i_12, i_13, i_16, i_20, i_21, i_22, i_31, i_99, i_100, i_256, i_1000, nI_eq, nI_leI, nI_ltI, nI_add, pk_mul, ↓reduceIte, nt_le, nf_le, nt_lt, nf_lt, nt_eq, nf_eq, meet_N', meet_P', meet_S', meet_Z', meet_B', meet_O', n_1, n_2, n_3, n_4, n_5, n_10, n_11]
        · unfold fX9_bitsOfFormula_L6_J56 fX9_bitsOfFormula_L6_J81 fX9_bitsOfFormula_L6_J93
          simp (disch := omega) only [h1, hVi, q, c8 q, e1, e2, e3, Option.bind_some, aI_n, aL_n, aQ_n, sA_n, sL_n, csA_n, i_0, i_1, i_2, i_3, i_4, i_5, i_6, i_7, i_8, i_9, i_10, i_11, i_12, i_13, i_16, i_20, i_21, i_22, i_31, i_99, i_100, i_256, i_1000, nI_eq, nI_leI, nI_ltI, nI_add, pk_mul, ↓reduceIte, nt_le, nf_le, nt_lt, nf_lt, nt_eq, nf_eq, meet_N', meet_P', meet_S', meet_Z', meet_B', meet_O', n_1, n_2, n_3, n_4, n_5, n_10, n_11]
  · obtain ⟨u, hu, rfl⟩ := hst
    refine ⟨.inl (nI u.1, nI u.2), ?_, Or.inl ⟨u, hu, rfl⟩⟩
    unfold fX9_bitsOfFormula_L6
    simp (disch := omega) only [h1, Option.bind_some, aI_n, aL_n, aQ_n, sA_n, sL_n, csA_n, i_0, i_1, i_2, i_3, i_4, i_5, i_6, i_7, i_8, i_9, i_10, i_11, i_12, i_13, i_16, i_20, i_21, i_22, i_31, i_99, i_100, i_256, i_1000, nI_eq, nI_leI, nI_ltI, nI_add, pk_mul, ↓reduceIte, nt_le, nf_le, nt_lt, nf_lt, nt_eq, nf_eq, meet_N', meet_P', meet_S', meet_Z', meet_B', meet_O', n_1, n_2, n_3, n_4, n_5, n_10, n_11]
/-- the reference's count of bits -/
def mrF (K : Nat → Nat) : Nat → Nat × Nat × Nat
  | 0 => (0, 0, 1)
  | i + 1 => if K i < 8 then ((mrF K i).1 ||| 2 ^ K i, (mrF K i).2.1 + 1, if bt (mrF K i).1 (K i) = 0 then (mrF K i).2.2 else 0) else mrF K i
theorem mrF_b {K : Nat → Nat} : ∀ i, (mrF K i).1 < 256 ∧ (mrF K i).2.1 ≤ i ∧ (mrF K i).2.2 ≤ 1 := by
  intro i
  induction i with
  | zero => exact ⟨by show 0 < 256; omega, Nat.le_refl _, Nat.le_refl _⟩
  | succ i ih =>
    show (if K i < 8 then ((mrF K i).1 ||| 2 ^ K i, (mrF K i).2.1 + 1, if bt (mrF K i).1 (K i) = 0 then (mrF K i).2.2 else 0) else mrF K i).1 < 256 ∧ (if K i < 8 then ((mrF K i).1 ||| 2 ^ K i, (mrF K i).2.1 + 1, if bt (mrF K i).1 (K i) = 0 then (mrF K i).2.2 else 0) else mrF K i).2.1 ≤ i + 1 ∧ (if K i < 8 then ((mrF K i).1 ||| 2 ^ K i, (mrF K i).2.1 + 1, if bt (mrF K i).1 (K i) = 0 then (mrF K i).2.2 else 0) else mrF K i).2.2 ≤ 1
    by_cases k8 : K i < 8
    · rw [if_pos k8]
      refine ⟨?_, by show (mrF K i).2.1 + 1 ≤ i + 1; omega, ?_⟩
      · exact Nat.or_lt_two_pow (n := 8) ih.1 (Nat.pow_lt_pow_right (by omega) k8)
      · show (if bt (mrF K i).1 (K i) = 0 then (mrF K i).2.2 else 0) ≤ 1
        split <;> omega
    · rw [if_neg k8]
      exact ⟨ih.1, by omega, ih.2.2⟩
theorem read21 {r : RS} {w : Nat} {V : Nat → Int32} {l1 : Int32} (hw : w ≤ 100) (hV : ∀ k, k < w → r.2.1 7 k = V k) : lpN (fun u => fX10_read_L21 r l1 (nI w) u.1 u.2.1 u.2.2.1 u.2.2.2) bigN (nI 0, nI 0, nI 1, nI 0) = some (nI (mrF (fun i => kdv (V i)) w).1, nI (mrF (fun i => kdv (V i)) w).2.1, nI (mrF (fun i => kdv (V i)) w).2.2) := by
  refine lp_det (body := fun u => fX10_read_L21 r l1 (nI w) u.1 u.2.1 u.2.2.1 u.2.2.2) (fun i => (nI (mrF (fun i => kdv (V i)) i).1, nI (mrF (fun i => kdv (V i)) i).2.1, nI (mrF (fun i => kdv (V i)) i).2.2, nI i)) w (bigN_gt (by omega)) (fun i hi => ?_) ?_
  · obtain ⟨b1, b2, b3⟩ := mrF_b (K := fun i => kdv (V i)) i
    have hVi := hV i hi
    have e : mrF (fun i => kdv (V i)) (i + 1) = if kdv (V i) < 8 then ((mrF (fun i => kdv (V i)) i).1 ||| 2 ^ kdv (V i), (mrF (fun i => kdv (V i)) i).2.1 + 1, if bt (mrF (fun i => kdv (V i)) i).1 (kdv (V i)) = 0 then (mrF (fun i => kdv (V i)) i).2.2 else 0) else mrF (fun i => kdv (V i)) i := rfl
    generalize mrF (fun i => kdv (V i)) i = u at *
    rw [e]
    unfold fX10_read_L21 fX10_read_L21_J70 fX10_read_L21_J88
    rcases kc (V i) with ⟨k, hk, ek, kk⟩ | ⟨hx, hc⟩
    · rw [kk, if_pos hk]
      have bl := bt_lt u.1 k
      have a1 : u.2.2 &&& 1 = u.2.2 := by rcases (show u.2.2 = 0 ∨ u.2.2 = 1 by omega) with c | c <;> rw [c] <;> rfl
      by_cases bb : bt u.1 k = 0
      · rw [if_pos bb]
        simp (disch := omega) only [hVi, ek, bitB (show u.1 < 2 ^ 31 by omega) (show k < 32 by omega), bb, shl1' k (by omega), nI_or, nI_and u.2.2 1, a1, Option.bind_some, aI_n, aL_n, aQ_n, sA_n, sL_n, csA_n, i_0, i_1, i_2, i_3, i_4, i_5, i_6, i_7, i_8, i_9, i_10, i_11, i_12, i_13, i_16, i_20, i_21, i_22, i_31, i_99, i_100, i_256, i_1000, nI_eq, nI_leI, nI_ltI, nI_add, pk_mul, ↓reduceIte, nt_le, nf_le, nt_lt, nf_lt, nt_eq, nf_eq, meet_N', meet_P', meet_S', meet_Z', meet_B', meet_O', n_1, n_2, n_3, n_4, n_5, n_10, n_11]
      · rw [if_neg bb]
        simp (disch := omega) only [hVi, ek, bitB (show u.1 < 2 ^ 31 by omega) (show k < 32 by omega), shl1' k (by omega), nI_or, nI_and u.2.2 0, Nat.and_zero, Option.bind_some, aI_n, aL_n, aQ_n, sA_n, sL_n, csA_n, i_0, i_1, i_2, i_3, i_4, i_5, i_6, i_7, i_8, i_9, i_10, i_11, i_12, i_13, i_16, i_20, i_21, i_22, i_31, i_99, i_100, i_256, i_1000, nI_eq, nI_leI, nI_ltI, nI_add, pk_mul, ↓reduceIte, nt_le, nf_le, nt_lt, nf_lt, nt_eq, nf_eq, meet_N', meet_P', meet_S', meet_Z', meet_B', meet_O', n_1, n_2, n_3, n_4, n_5, n_10, n_11]
    · have k99 : ¬ kdv (V i) < 8 := by rcases hc with ⟨_, q⟩ | ⟨_, q⟩ | ⟨_, q⟩ | ⟨_, _, _, q⟩ <;> omega
      rw [if_neg k99]
      by_cases q : V i < nI 0
      · simp (disch := omega) only [hVi, q, Option.bind_some, aI_n, aL_n, aQ_n, sA_n, sL_n, csA_n, i_0, i_1, i_2, i_3, i_4, i_5, i_6, i_7, i_8, i_9, i_10, i_11, i_12, i_13, i_16, i_20, i_21, i_22, i_31, i_99, i_100, i_256, i_1000, nI_eq, nI_leI, nI_ltI, nI_add, pk_mul, ↓reduceIte, nt_le, nf_le, nt_lt, nf_lt, nt_eq, nf_eq, meet_N', meet_P', meet_S', meet_Z', meet_B', meet_O', n_1, n_2, n_3, n_4, n_5, n_10, n_11]
      · have c7 : nI 7 < V i := by
          have := Int32.le_iff_toInt_le.mp (hx.resolve_left q)
          exact Int32.lt_iff_toInt_lt.mpr (by rw [nI_toInt (by omega)] at this ⊢; omega)
        simp (disch := omega) only [hVi, q, c7, Option.bind_some, aI_n, aL_n, aQ_n, sA_n, sL_n, csA_n, i_0, i_1, i_2, i_3, i_4, i_5, i_6, i_7, i_8, i_9, i_10, i_11, i_12, i_13, i_16, i_20, i_21, i_22, i_31, i_99, i_100, i_256, i_1000, nI_eq, nI_leI, nI_ltI, nI_add, pk_mul, ↓reduceIte, nt_le, nf_le, nt_lt, nf_lt, nt_eq, nf_eq, meet_N', meet_P', meet_S', meet_Z', meet_B', meet_O', n_1, n_2, n_3, n_4, n_5, n_10, n_11]
  · unfold fX10_read_L21
    simp (disch := omega) only [Option.bind_some, aI_n, aL_n, aQ_n, sA_n, sL_n, csA_n, i_0, i_1, i_2, i_3, i_4, i_5, i_6, i_7, i_8, i_9, i_10, i_11, i_12, i_13, i_16, i_20, i_21, i_22, i_31, i_99, i_100, i_256, i_1000, nI_eq, nI_leI, nI_ltI, nI_add, pk_mul, ↓reduceIte, nt_le, nf_le, nt_lt, nf_lt, nt_eq, nf_eq, meet_N', meet_P', meet_S', meet_Z', meet_B', meet_O', n_1, n_2, n_3, n_4, n_5, n_10, n_11]
def pdF (K : Nat → Nat) : Nat → Option Nat
  | 0 => some 0
  | i + 1 => match pdF K i with
    | none => none
    | some d => if K i < 8 then some (d + 1) else if K i = 10 ∨ K i = 11 then (if d < 2 then none else some (d - 1)) else if K i = 12 then (if d < 1 then none else some d) else none
theorem pdF_s {K : Nat → Nat} {i d : Nat} (h : pdF K i = some d) : pdF K (i + 1) = if K i < 8 then some (d + 1) else if K i = 10 ∨ K i = 11 then (if d < 2 then none else some (d - 1)) else if K i = 12 then (if d < 1 then none else some d) else none := by
  show (match pdF K i with | none => none | some d => _) = _
  rw [h]
theorem pdF_n {K : Nat → Nat} {i : Nat} (h : pdF K i = none) : ∀ k, pdF K (i + k) = none := by
  intro k
  induction k with
  | zero => exact h
  | succ k ih =>
    show (match pdF K (i + k) with | none => none | some d => _) = _
    rw [ih]
theorem rel_F {K : Nat → Nat} : ∀ i, (∀ u, stF K i = some u → mrF K i = (u.1, pop u.1, 1) ∧ pdF K i = some u.2) ∧ (stF K i = none → (mrF K i).2.2 = 0 ∨ pdF K i = none) := by
  intro i
  induction i with
  | zero =>
    refine ⟨fun u h => ?_, fun h => by cases h⟩
    obtain rfl := Option.some.inj h
    exact ⟨rfl, rfl⟩
  | succ i ih =>
    have em : mrF K (i + 1) = if K i < 8 then ((mrF K i).1 ||| 2 ^ K i, (mrF K i).2.1 + 1, if bt (mrF K i).1 (K i) = 0 then (mrF K i).2.2 else 0) else mrF K i := rfl
    cases e : stF K i with
    | none =>
      refine ⟨fun u h => ?_, fun _ => ?_⟩
      · rw [show stF K (i + 1) = none from stF_n e 1] at h; cases h
      · rcases ih.2 e with a | a
        · left
          rw [em]
          split
          · show (if bt (mrF K i).1 (K i) = 0 then (mrF K i).2.2 else 0) = 0
            split
            · exact a
            · rfl
          · exact a
        · exact Or.inr (pdF_n a 1)
    | some u' =>
      obtain ⟨i1, i2⟩ := ih.1 u' e
      obtain ⟨b1, b2, b3⟩ := stF_b i u' e
      rw [stF_s e, em, i1, pdF_s i2]
      by_cases k8 : K i < 8
      · rw [if_pos k8, if_pos k8, if_pos k8]
        have bl := bt_lt u'.1 (K i)
        by_cases bb : bt u'.1 (K i) = 1
        · rw [if_pos bb]
          refine ⟨fun u h => (by cases h), fun _ => Or.inl ?_⟩
          show (if bt u'.1 (K i) = 0 then 1 else 0) = 0
          rw [if_neg (by omega)]
        · rw [if_neg bb]
          have f := fall2 u'.1 b1 (K i) k8 (show bt u'.1 (K i) = 0 by omega)
          refine ⟨fun u h => ?_, fun h => by cases h⟩
          obtain rfl := Option.some.inj h
          refine ⟨?_, rfl⟩
          show (u'.1 ||| 2 ^ K i, pop u'.1 + 1, if bt u'.1 (K i) = 0 then 1 else 0) = (u'.1 + 2 ^ K i, pop (u'.1 + 2 ^ K i), 1)
          rw [f.2.2.2, f.2.2.1, if_pos (by omega)]
      · rw [if_neg k8, if_neg k8, if_neg k8]
        by_cases k10 : K i = 10 ∨ K i = 11
        · rw [if_pos k10, if_pos k10]
          by_cases d2 : u'.2 < 2
          · rw [if_pos d2, if_pos d2]
            exact ⟨fun u h => (by cases h), fun _ => Or.inr rfl⟩
          · rw [if_neg d2, if_neg d2]
            refine ⟨fun u h => ?_, fun h => by cases h⟩
            obtain rfl := Option.some.inj h
            exact ⟨rfl, rfl⟩
        · rw [if_neg k10, if_neg k10]
          by_cases k12 : K i = 12
          · rw [if_pos k12, if_pos k12]
            by_cases d1 : u'.2 < 1
            · rw [if_pos d1, if_pos d1]
              exact ⟨fun u h => (by cases h), fun _ => Or.inr rfl⟩
            · rw [if_neg d1, if_neg d1]
              refine ⟨fun u h => ?_, fun h => by cases h⟩
              obtain rfl := Option.some.inj h
              exact ⟨rfl, rfl⟩
          · rw [if_neg k12, if_neg k12]
            exact ⟨fun u h => (by cases h), fun _ => Or.inr rfl⟩
