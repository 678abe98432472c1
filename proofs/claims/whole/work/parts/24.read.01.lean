def RF (r r' : RS) : Prop := r'.1 = r.1 ∧ r'.2.2 = r.2.2 ∧ ∀ k, k ≠ 10 → r'.2.1 k = r.2.1 k
theorem RF.rf {r : RS} : RF r r := ⟨rfl, rfl, fun _ _ => rfl⟩
theorem RF.tr {x y z : RS} (h : RF x y) (h' : RF y z) : RF x z := ⟨h'.1.trans h.1, h'.2.1.trans h.2.1, fun k hk => (h'.2.2 k hk).trans (h.2.2 k hk)⟩
theorem RF.up {r r' : RS} {i : Nat} {x : Int32} (h : RF r r') : RF r (rA r' 10 i x) := ⟨h.1, h.2.1, fun k hk => by rw [rA_n hk]; exact h.2.2 k hk⟩
theorem gt7 {v : Int32} (hx : v < 0 ∨ nI 8 ≤ v) (q : ¬ v < nI 0) : nI 7 < v := by
  have := Int32.le_iff_toInt_le.mp (hx.resolve_left q)
  exact Int32.lt_iff_toInt_lt.mpr (by rw [nI_toInt (by omega)] at this ⊢; omega)
/-- the reference's stack, read alone -/
theorem formX {r : RS} {w x : Nat} {V : Nat → Int32} (hw : w ≤ 100) (hx : x < 256) (hV : ∀ k, k < w → r.2.1 7 k = V k) : ∃ c r', fX10_formula r (nI w) (nI x) = some (c, r') ∧ RF r r' ∧ (pdF (fun i => kdv (V i)) w ≠ some 1 → c = -nI 1) := by
  have HH := lp_upto (body := fun u => fX10_formula_L5 u.2.2 (nI w) (nI x) u.1 u.2.1) (fun i st => ∃ d rr, pdF (fun i => kdv (V i)) i = some d ∧ d ≤ i ∧ st = (nI d, nI i, rr) ∧ RF r rr) w (fun e => (∃ d rr, pdF (fun i => kdv (V i)) w = some d ∧ d ≤ w ∧ e = .inl (nI d, rr) ∧ RF r rr) ∨ (pdF (fun i => kdv (V i)) w = none ∧ ∃ rr, e = .inr (-nI 1, rr) ∧ RF r rr)) (bigN_gt (by omega)) (fun i st hi hst => ?_) (fun st hst => ?_) (s := (nI 0, nI 0, r)) ⟨0, r, rfl, Nat.le_refl _, rfl, RF.rf⟩
  · obtain ⟨e, e1, e2⟩ := HH
    unfold fX10_formula
    rcases e2 with ⟨d, rr, a1, a2, rfl, a3⟩ | ⟨a1, rr, rfl, a3⟩
    · by_cases d1 : d = 1
      · subst d1
        refine ⟨rr.2.1 10 0, rr, ?_, a3, fun q => absurd a1 q⟩
        simp (disch := omega) only [e1, sel, Option.bind_some, aI_n, aL_n, aQ_n, sA_n, sL_n, csA_n, i_0, i_1, i_2, i_3, i_4, i_5, i_6, i_7, i_8, i_9, i_10, i_11, i_12, i_13, i_16, i_20, i_21, i_22, i_31, i_99, i_100, i_256, i_1000, nI_eq, nI_leI, nI_ltI, nI_add, pk_mul, ↓reduceIte, nt_le, nf_le, nt_lt, nf_lt, nt_eq, nf_eq, meet_N', meet_P', meet_S', meet_Z', meet_B', meet_O', n_1, n_2, n_3, n_4, n_5, n_10, n_11]
      · refine ⟨-nI 1, rr, ?_, a3, fun _ => rfl⟩
        simp (disch := omega) only [e1, sel, Option.bind_some, aI_n, aL_n, aQ_n, sA_n, sL_n, csA_n, i_0, i_1, i_2, i_3, i_4, i_5, i_6, i_7, i_8, i_9, i_10, i_11, i_12, i_13, i_16, i_20, i_21, i_22, i_31, i_99, i_100, i_256, i_1000, nI_eq, nI_leI, nI_ltI, nI_add, pk_mul, ↓reduceIte, nt_le, nf_le, nt_lt, nf_lt, nt_eq, nf_eq, meet_N', meet_P', meet_S', meet_Z', meet_B', meet_O', n_1, n_2, n_3, n_4, n_5, n_10, n_11]
    · refine ⟨-nI 1, rr, ?_, a3, fun _ => rfl⟩
      simp (disch := omega) only [e1, sel, Option.bind_some, aI_n, aL_n, aQ_n, sA_n, sL_n, csA_n, i_0, i_1, i_2, i_3, i_4, i_5, i_6, i_7, i_8, i_9, i_10, i_11, i_12, i_13, i_16, i_20, i_21, i_22, i_31, i_99, i_100, i_256, i_1000, nI_eq, nI_leI, nI_ltI, nI_add, pk_mul, ↓reduceIte, nt_le, nf_le, nt_lt, nf_lt, nt_eq, nf_eq, meet_N', meet_P', meet_S', meet_Z', meet_B', meet_O', n_1, n_2, n_3, n_4, n_5, n_10, n_11]
  · obtain ⟨d, rr, hd, hdi, rfl, hr⟩ := hst
    have hVi : rr.2.1 7 i = V i := by rw [hr.2.2 7 (by omega)]; exact hV i hi
    have ss := pdF_s hd
    have bad : pdF (fun i => kdv (V i)) (i + 1) = none → pdF (fun i => kdv (V i)) w = none := fun q => by
      have := pdF_n q (w - (i + 1))
      rw [show i + 1 + (w - (i + 1)) = w by omega] at this
      exact this
    unfold fX10_formula_L5
    rcases kc (V i) with ⟨k, hk, ek, kk⟩ | ⟨hx', hc⟩
    · left
      rw [kk, if_pos hk] at ss
      refine ⟨_, ?_, d + 1, rA rr 10 d (nI (bt x k)), ss, by omega, rfl, hr.up⟩
      unfold fX10_formula_L5_J157
      simp (disch := omega) only [hVi, ek, bitB (show x < 2 ^ 31 by omega) (show k < 32 by omega), Option.bind_some, aI_n, aL_n, aQ_n, sA_n, sL_n, csA_n, i_0, i_1, i_2, i_3, i_4, i_5, i_6, i_7, i_8, i_9, i_10, i_11, i_12, i_13, i_16, i_20, i_21, i_22, i_31, i_99, i_100, i_256, i_1000, nI_eq, nI_leI, nI_ltI, nI_add, pk_mul, ↓reduceIte, nt_le, nf_le, nt_lt, nf_lt, nt_eq, nf_eq, meet_N', meet_P', meet_S', meet_Z', meet_B', meet_O', n_1, n_2, n_3, n_4, n_5, n_10, n_11]
    · rcases hc with ⟨e, kk⟩ | ⟨e, kk⟩ | ⟨e, kk⟩ | ⟨e1, e2, e3, kk⟩
      · rw [kk, if_neg (by omega), if_pos (Or.inl rfl)] at ss
        by_cases d2 : d < 2
        · right
          rw [if_pos d2] at ss
          refine ⟨.inr (-nI 1, rr), ?_, Or.inr ⟨bad ss, rr, rfl, hr⟩⟩
          unfold fX10_formula_L5_J50 fX10_formula_L5_J64 fX10_formula_L5_J123 fX10_formula_L5_J155
          simp (disch := omega) only [hVi, e, Option.bind_some, aI_n, aL_n, aQ_n, sA_n, sL_n, csA_n, i_0, i_1, i_2, i_3, i_4, i_5, i_6, i_7, i_8, i_9, i_10, i_11, i_12, i_13, i_16, i_20, i_21, i_22, i_31, i_99, i_100, i_256, i_1000, nI_eq, nI_leI, nI_ltI, nI_add, pk_mul, ↓reduceIte, nt_le, nf_le, nt_lt, nf_lt, nt_eq, nf_eq, meet_N', meet_P', meet_S', meet_Z', meet_B', meet_O', n_1, n_2, n_3, n_4, n_5, n_10, n_11]
        · left
          rw [if_neg d2] at ss
          refine ⟨_, ?_, d - 1, rA rr 10 (d - 1 - 1) (rr.2.1 10 (d - 1 - 1) &&& rr.2.1 10 (d - 1)), ss, by omega, rfl, hr.up⟩
          unfold fX10_formula_L5_J50 fX10_formula_L5_J64 fX10_formula_L5_J119 fX10_formula_L5_J157
          simp (disch := omega) only [hVi, e, m1_add, pk_sub, Option.bind_some, aI_n, aL_n, aQ_n, sA_n, sL_n, csA_n, i_0, i_1, i_2, i_3, i_4, i_5, i_6, i_7, i_8, i_9, i_10, i_11, i_12, i_13, i_16, i_20, i_21, i_22, i_31, i_99, i_100, i_256, i_1000, nI_eq, nI_leI, nI_ltI, nI_add, pk_mul, ↓reduceIte, nt_le, nf_le, nt_lt, nf_lt, nt_eq, nf_eq, meet_N', meet_P', meet_S', meet_Z', meet_B', meet_O', n_1, n_2, n_3, n_4, n_5, n_10, n_11]
      · rw [kk, if_neg (by omega), if_pos (Or.inr rfl)] at ss
        by_cases d2 : d < 2
        · right
          rw [if_pos d2] at ss
          refine ⟨.inr (-nI 1, rr), ?_, Or.inr ⟨bad ss, rr, rfl, hr⟩⟩
          unfold fX10_formula_L5_J50 fX10_formula_L5_J64 fX10_formula_L5_J123 fX10_formula_L5_J155
          simp (disch := omega) only [hVi, e, Option.bind_some, aI_n, aL_n, aQ_n, sA_n, sL_n, csA_n, i_0, i_1, i_2, i_3, i_4, i_5, i_6, i_7, i_8, i_9, i_10, i_11, i_12, i_13, i_16, i_20, i_21, i_22, i_31, i_99, i_100, i_256, i_1000, nI_eq, nI_leI, nI_ltI, nI_add, pk_mul, ↓reduceIte, nt_le, nf_le, nt_lt, nf_lt, nt_eq, nf_eq, meet_N', meet_P', meet_S', meet_Z', meet_B', meet_O', n_1, n_2, n_3, n_4, n_5, n_10, n_11]
        · left
          rw [if_neg d2] at ss
          refine ⟨_, ?_, d - 1, rA rr 10 (d - 1 - 1) (rr.2.1 10 (d - 1 - 1) ||| rr.2.1 10 (d - 1)), ss, by omega, rfl, hr.up⟩
          unfold fX10_formula_L5_J50 fX10_formula_L5_J64 fX10_formula_L5_J119 fX10_formula_L5_J157
          simp (disch := omega) only [hVi, e, m1_add, pk_sub, Option.bind_some, aI_n, aL_n, aQ_n, sA_n, sL_n, csA_n, i_0, i_1, i_2, i_3, i_4, i_5, i_6, i_7, i_8, i_9, i_10, i_11, i_12, i_13, i_16, i_20, i_21, i_22, i_31, i_99, i_100, i_256, i_1000, nI_eq, nI_leI, nI_ltI, nI_add, pk_mul, ↓reduceIte, nt_le, nf_le, nt_lt, nf_lt, nt_eq, nf_eq, meet_N', meet_P', meet_S', meet_Z', meet_B', meet_O', n_1, n_2, n_3, n_4, n_5, n_10, n_11]
      · rw [kk, if_neg (by omega), if_neg (by omega), if_pos rfl] at ss
        by_cases d1 : d < 1
        · right
          rw [if_pos d1] at ss
          refine ⟨.inr (-nI 1, rr), ?_, Or.inr ⟨bad ss, rr, rfl, hr⟩⟩
          unfold fX10_formula_L5_J50 fX10_formula_L5_J123 fX10_formula_L5_J155
          simp (disch := omega) only [hVi, e, Option.bind_some, aI_n, aL_n, aQ_n, sA_n, sL_n, csA_n, i_0, i_1, i_2, i_3, i_4, i_5, i_6, i_7, i_8, i_9, i_10, i_11, i_12, i_13, i_16, i_20, i_21, i_22, i_31, i_99, i_100, i_256, i_1000, nI_eq, nI_leI, nI_ltI, nI_add, pk_mul, ↓reduceIte, nt_le, nf_le, nt_lt, nf_lt, nt_eq, nf_eq, meet_N', meet_P', meet_S', meet_Z', meet_B', meet_O', n_1, n_2, n_3, n_4, n_5, n_10, n_11]
        · left
          rw [if_neg d1] at ss
          refine ⟨_, ?_, d, rA rr 10 (d - 1) (nI 1 - rr.2.1 10 (d - 1)), ss, by omega, rfl, hr.up⟩
          unfold fX10_formula_L5_J50 fX10_formula_L5_J123 fX10_formula_L5_J157
          simp (disch := omega) only [hVi, e, pk_sub, Option.bind_some, aI_n, aL_n, aQ_n, sA_n, sL_n, csA_n, i_0, i_1, i_2, i_3, i_4, i_5, i_6, i_7, i_8, i_9, i_10, i_11, i_12, i_13, i_16, i_20, i_21, i_22, i_31, i_99, i_100, i_256, i_1000, nI_eq, nI_leI, nI_ltI, nI_add, pk_mul, ↓reduceIte, nt_le, nf_le, nt_lt, nf_lt, nt_eq, nf_eq, meet_N', meet_P', meet_S', meet_Z', meet_B', meet_O', n_1, n_2, n_3, n_4, n_5, n_10, n_11]
      · rw [kk, if_neg (by omega), if_neg (by omega), if_neg (by omega)] at ss
        right
        refine ⟨.inr (-nI 1, rr), ?_, Or.inr ⟨bad ss, rr, rfl, hr⟩⟩
        by_cases q : V i < nI 0
        · unfold fX10_formula_L5_J50 fX10_formula_L5_J123 fX10_formula_L5_J155
          simp (disch := omega) only [hVi, q, e1, e2, e3, Option.bind_some, aI_n, aL_n, aQ_n, sA_n, sL_n, csA_n, i_0, i_1, i_2, i_3, i_4, i_5, i_6, i_7, i_8, i_9, i_10, i_11, i_12, i_13, i_16, i_20, i_21, i_22, i_31, i_99, i_100, i_256, i_1000, nI_eq, nI_leI, nI_ltI, nI_add, pk_mul, ↓reduceIte, nt_le, nf_le, nt_lt, nf_lt, nt_eq, nf_eq, meet_N', meet_P', meet_S', meet_Z', meet_B', meet_O', n_1, n_2, n_3, n_4, n_5, n_10, n_11]
        · unfold fX10_formula_L5_J50 fX10_formula_L5_J123 fX10_formula_L5_J155
          simp (disch := omega) only [hVi, q, gt7 hx' q, e1, e2, e3, Option.bind_some, aI_n, aL_n, aQ_n, sA_n, sL_n, csA_n, i_0, i_1, i_2, i_3, i_4, i_5, i_6, i_7, i_8, i_9, i_10, i_11, i_12, i_13, i_16, i_20, i_21, i_22, i_31, i_99, i_100, i_256, i_1000, nI_eq, nI_leI, nI_ltI, nI_add, pk_mul, ↓reduceIte, nt_le, nf_le, nt_lt, nf_lt, nt_eq, nf_eq, meet_N', meet_P', meet_S', meet_Z', meet_B', meet_O', n_1, n_2, n_3, n_4, n_5, n_10, n_11]
  · obtain ⟨d, rr, hd, hdi, rfl, hr⟩ := hst
    refine ⟨.inl (nI d, rr), ?_, Or.inl ⟨d, rr, hd, hdi, rfl, hr⟩⟩
    unfold fX10_formula_L5
    simp (disch := omega) only [Option.bind_some, aI_n, aL_n, aQ_n, sA_n, sL_n, csA_n, i_0, i_1, i_2, i_3, i_4, i_5, i_6, i_7, i_8, i_9, i_10, i_11, i_12, i_13, i_16, i_20, i_21, i_22, i_31, i_99, i_100, i_256, i_1000, nI_eq, nI_leI, nI_ltI, nI_add, pk_mul, ↓reduceIte, nt_le, nf_le, nt_lt, nf_lt, nt_eq, nf_eq, meet_N', meet_P', meet_S', meet_Z', meet_B', meet_O', n_1, n_2, n_3, n_4, n_5, n_10, n_11]
theorem opA : ∀ L, L < 256 → ((nI L >>> (nI 1 &&& nI 31)) &&& (nI L ||| -nI 2)) = nI (L / 4 * 2 + L / 2 % 2 * (L % 2)) := by decide +kernel
theorem opO : ∀ L, L < 256 → ((nI L >>> (nI 1 &&& nI 31)) ||| (nI L &&& nI 1)) = nI (L / 4 * 2 + max (L / 2 % 2) (L % 2)) := by decide +kernel
theorem opP : ∀ L, L < 128 → ∀ b, b < 2 → ((nI L <<< (nI 1 &&& nI 31)) ||| nI b) = nI (2 * L + b) := by decide +kernel
theorem opN : ∀ L, L < 256 → ∀ e, e < 8 → (L ^^^ 1) % 2 = 1 - L % 2 ∧ (1 ≤ e → (L ^^^ 1) / 2 ^ e % 2 = L / 2 ^ e % 2) := by decide +kernel
/-- the stack of the reference and the number of the class -/
def SRk (d L : Nat) (rr : RS) : Prop := ∀ j, j < d → rr.2.1 10 j = nI (L / 2 ^ (d - 1 - j) % 2)
theorem SRk_new {d d' L L' b : Nat} {rr : RS} (h : SRk d L rr) (h1 : 1 ≤ d') (hd : d' ≤ d + 1) (hb : L' % 2 = b) (he : ∀ e, 1 ≤ e → e < d' → L' / 2 ^ e % 2 = L / 2 ^ (e + d - d') % 2) : SRk d' L' (rA rr 10 (d' - 1) (nI b)) := by
  intro j hj
  by_cases e : j = d' - 1
  · rw [e, rA_s, show d' - 1 - (d' - 1) = 0 by omega, Nat.pow_zero, Nat.div_one, hb]
  · rw [rA_j e, h j (by omega), he (d' - 1 - j) (by omega) (by omega), show d' - 1 - j + d - d' = d - 1 - j by omega]
theorem div24 (L a e : Nat) (he : 1 ≤ e) (ha : a < 2) : (L / 4 * 2 + a) / 2 ^ e % 2 = L / 2 ^ (e + 1) % 2 := by
  obtain ⟨f, rfl⟩ : ∃ f, e = f + 1 := ⟨e - 1, by omega⟩
  rw [show 2 ^ (f + 1) = 2 * 2 ^ f from Nat.pow_succ', ← Nat.div_div_eq_div_mul, show (L / 4 * 2 + a) / 2 = L / 4 by omega, show f + 1 + 1 = 2 + f by omega, Nat.pow_add, ← Nat.div_div_eq_div_mul]
theorem div2p (L a e : Nat) (he : 1 ≤ e) (ha : a < 2) : (2 * L + a) / 2 ^ e % 2 = L / 2 ^ (e - 1) % 2 := by
  obtain ⟨f, rfl⟩ : ∃ f, e = f + 1 := ⟨e - 1, by omega⟩
  rw [show 2 ^ (f + 1) = 2 * 2 ^ f from Nat.pow_succ', ← Nat.div_div_eq_div_mul, show (2 * L + a) / 2 = L by omega, show f + 1 - 1 = f by omega]
theorem bmul : ∀ a, a < 2 → ∀ b, b < 2 → a &&& b = a * b ∧ a ||| b = max a b := by decide
theorem said_n {o : Nat} {z : CS} {r : RS} {w x : Nat} {u : Nat × Nat} {V : Nat → Int32} (hw : w ≤ 100) (hx : x < 256) (h1 : z.1 1 = nI w) (hz : ∀ k, k < w → z.2.1 0 k = V k) (hV : ∀ k, k < w → r.2.1 7 k = V k) (hst : stF (fun i => kdv (V i)) w = some u) (hu : u.2 = 1) : ∃ v, v ≤ 1 ∧ fX9_saidByFormula o z (nI x) = some (nI v) ∧ ∃ r', fX10_formula r (nI w) (nI x) = some (nI v, r') ∧ RF r r' := by
  have ok : ∀ i, i ≤ w → ∃ u', stF (fun i => kdv (V i)) i = some u' := fun i hi => by
    cases e : stF (fun i => kdv (V i)) i with
    | none =>
      have := stF_n e (w - i)
      rw [show i + (w - i) = w by omega, hst] at this
      cases this
    | some u' => exact ⟨u', rfl⟩
  have HH := lp_pair (b1 := fun u => fX9_saidByFormula_L4 o z (nI x) u.1 u.2) (b2 := fun u => fX10_formula_L5 u.2.2 (nI w) (nI x) u.1 u.2.1) (fun s1 s2 => ∃ i m d L rr, i ≤ w ∧ stF (fun i => kdv (V i)) i = some (m, d) ∧ L < 2 ^ d ∧ s1 = (nI L, nI i) ∧ s2 = (nI d, nI i, rr) ∧ RF r rr ∧ SRk d L rr) (fun s => 1000 - s.2.toNatClampNeg) (fun e1 e2 => ∃ L rr, L < 2 ∧ e1 = nI L ∧ e2 = .inl (nI 1, rr) ∧ RF r rr ∧ rr.2.1 10 0 = nI L) (fun s1 s2 hs => ?_) bigN (nI 0, nI 0) (nI 0, nI 0, r) ⟨0, 0, 0, 0, r, Nat.zero_le _, rfl, by omega, rfl, rfl, RF.rf, fun j hj => by omega⟩ (by show 1000 - _ < 1000000000; omega)
  · obtain ⟨e1, e2, a1, a2, L, rr, a3, rfl, rfl, a4, a5⟩ := HH
    refine ⟨L, by omega, ?_, rr, ?_, a4⟩
    · unfold fX9_saidByFormula
      refine (congrArg (fun u => u.bind fun e2 => some (e2 &&& (1 : Int32))) a1).trans ?_
      show some (nI L &&& nI 1) = _
      rw [and1 (by omega), Nat.mod_eq_of_lt a3]
    · unfold fX10_formula
      simp (disch := omega) only [a2, sel, a5, Option.bind_some, aI_n, aL_n, aQ_n, sA_n, sL_n, csA_n, i_0, i_1, i_2, i_3, i_4, i_5, i_6, i_7, i_8, i_9, i_10, i_11, i_12, i_13, i_16, i_20, i_21, i_22, i_31, i_99, i_100, i_256, i_1000, nI_eq, nI_leI, nI_ltI, nI_add, pk_mul, ↓reduceIte, nt_le, nf_le, nt_lt, nf_lt, nt_eq, nf_eq, meet_N', meet_P', meet_S', meet_Z', meet_B', meet_O', n_1, n_2, n_3, n_4, n_5, n_10, n_11]
  · obtain ⟨i, m, d, L, rr, hi, hs', hL, rfl, rfl, hr, hk⟩ := hs
    obtain ⟨b1, b2, b3⟩ := stF_b i _ hs'
    simp only at b1 b2 b3
    have pl := pop_le m
    have d8 : d ≤ 8 := by omega
    have pd := p2le d8
    by_cases hiw : i = w
    · subst hiw
      right
      rw [hst] at hs'
      obtain rfl := Option.some.inj hs'
      simp only at hu
      subst hu
      refine ⟨nI L, .inl (nI 1, rr), ?_, ?_, L, rr, by omega, rfl, rfl, hr, ?_⟩
      · unfold fX9_saidByFormula_L4
        simp (disch := omega) only [h1, Option.bind_some, aI_n, aL_n, aQ_n, sA_n, sL_n, csA_n, i_0, i_1, i_2, i_3, i_4, i_5, i_6, i_7, i_8, i_9, i_10, i_11, i_12, i_13, i_16, i_20, i_21, i_22, i_31, i_99, i_100, i_256, i_1000, nI_eq, nI_leI, nI_ltI, nI_add, pk_mul, ↓reduceIte, nt_le, nf_le, nt_lt, nf_lt, nt_eq, nf_eq, meet_N', meet_P', meet_S', meet_Z', meet_B', meet_O', n_1, n_2, n_3, n_4, n_5, n_10, n_11]
      · unfold fX10_formula_L5
        simp (disch := omega) only [Option.bind_some, aI_n, aL_n, aQ_n, sA_n, sL_n, csA_n, i_0, i_1, i_2, i_3, i_4, i_5, i_6, i_7, i_8, i_9, i_10, i_11, i_12, i_13, i_16, i_20, i_21, i_22, i_31, i_99, i_100, i_256, i_1000, nI_eq, nI_leI, nI_ltI, nI_add, pk_mul, ↓reduceIte, nt_le, nf_le, nt_lt, nf_lt, nt_eq, nf_eq, meet_N', meet_P', meet_S', meet_Z', meet_B', meet_O', n_1, n_2, n_3, n_4, n_5, n_10, n_11]
      · have := hk 0 (by omega)
        rw [this, show 1 - 1 - 0 = 0 from rfl, Nat.pow_zero, Nat.div_one, Nat.mod_eq_of_lt (by omega)]
    · left
      have hlt : i < w := by omega
      have hVi : rr.2.1 7 i = V i := by rw [hr.2.2 7 (by omega)]; exact hV i hlt
      have hzi := hz i hlt
      obtain ⟨u', hu'⟩ := ok (i + 1) (by omega)
      have ss := stF_s hs'
      rw [hu'] at ss
      have mz : ∀ a : Nat, 1000 - (nI (i + 1)).toNatClampNeg < 1000 - (nI i).toNatClampNeg := fun _ => by
        rw [nI_clamp (by omega), nI_clamp (by omega)]
        omega
      have l2 : L % 2 < 2 := Nat.mod_lt _ (by omega)
      have l3 : L / 2 % 2 < 2 := Nat.mod_lt _ (by omega)
      unfold fX9_saidByFormula_L4 fX9_saidByFormula_L4_J82 fX10_formula_L5
      rcases kc (V i) with ⟨k, hk8, ek, kk⟩ | ⟨hx', hc⟩
      · rw [kk, if_pos hk8] at ss
        by_cases bb : bt m k = 1
        · rw [if_pos bb] at ss; cases ss
        · rw [if_neg bb] at ss
          obtain rfl := Option.some.inj ss
          obtain ⟨c1, c2, c3⟩ := stF_b (i + 1) _ hu'
          simp only at c1 c2 c3
          have pl' := pop_le (m + 2 ^ k)
          have bl := bt_lt x k
          have pd7 : 2 ^ d ≤ 2 ^ 7 := Nat.pow_le_pow_right (by omega) (by omega)
          have oP := opP L (by omega) (bt x k) bl
          refine ⟨(nI (2 * L + bt x k), nI (i + 1)), (nI (d + 1), nI (i + 1), rA rr 10 d (nI (bt x k))), ?_, ?_, ⟨i + 1, _, d + 1, 2 * L + bt x k, _, by omega, hu', by rw [Nat.pow_succ]; omega, rfl, rfl, hr.up, ?_⟩, mz 0⟩
          · simp (disch := omega) only [h1, hzi, ek, bitB (show x < 2 ^ 31 by omega) (show k < 32 by omega), oP, Option.bind_some, aI_n, aL_n, aQ_n, sA_n, sL_n, csA_n, i_0, i_1, i_2, i_3, i_4, i_5, i_6, i_7, i_8, i_9, i_10, i_11, i_12, i_13, i_16, i_20, i_21, i_22, i_31, i_99, i_100, i_256, i_1000, nI_eq, nI_leI, nI_ltI, nI_add, pk_mul, ↓reduceIte, nt_le, nf_le, nt_lt, nf_lt, nt_eq, nf_eq, meet_N', meet_P', meet_S', meet_Z', meet_B', meet_O', n_1, n_2, n_3, n_4, n_5, n_10, n_11]
          · unfold fX10_formula_L5_J157
            simp (disch := omega) only [hVi, ek, bitB (show x < 2 ^ 31 by omega) (show k < 32 by omega), Option.bind_some, aI_n, aL_n, aQ_n, sA_n, sL_n, csA_n, i_0, i_1, i_2, i_3, i_4, i_5, i_6, i_7, i_8, i_9, i_10, i_11, i_12, i_13, i_16, i_20, i_21, i_22, i_31, i_99, i_100, i_256, i_1000, nI_eq, nI_leI, nI_ltI, nI_add, pk_mul, ↓reduceIte, nt_le, nf_le, nt_lt, nf_lt, nt_eq, nf_eq, meet_N', meet_P', meet_S', meet_Z', meet_B', meet_O', n_1, n_2, n_3, n_4, n_5, n_10, n_11]
          · exact SRk_new (d' := d + 1) hk (by omega) (by omega) (by omega) (fun e e1 e2 => by rw [div2p L _ e e1 bl, show e + d - (d + 1) = e - 1 by omega])
      · rcases hc with ⟨e, kk⟩ | ⟨e, kk⟩ | ⟨e, kk⟩ | ⟨e1, e2, e3, kk⟩
        · rw [kk, if_neg (by omega), if_pos (Or.inl rfl)] at ss
          by_cases d2 : d < 2
          · rw [if_pos d2] at ss; cases ss
          · rw [if_neg d2] at ss
            obtain rfl := Option.some.inj ss
            have ab : L / 2 % 2 * (L % 2) < 2 := by
              rcases (show L / 2 % 2 = 0 ∨ L / 2 % 2 = 1 by omega) with c | c <;> rw [c] <;> omega
            have k1 := hk (d - 1) (by omega)
            have k2 := hk (d - 1 - 1) (by omega)
            rw [show d - 1 - (d - 1) = 0 by omega, Nat.pow_zero, Nat.div_one] at k1
            rw [show d - 1 - (d - 1 - 1) = 1 by omega, Nat.pow_one] at k2
            have hp : 2 ^ (d - 1 + 1) = 2 * 2 ^ (d - 1) := Nat.pow_succ'
            rw [show d - 1 + 1 = d by omega] at hp
            have hp2 : 2 ^ (d - 2 + 1) = 2 * 2 ^ (d - 2) := Nat.pow_succ'
            rw [show d - 2 + 1 = d - 1 by omega] at hp2
            refine ⟨(nI (L / 4 * 2 + L / 2 % 2 * (L % 2)), nI (i + 1)), (nI (d - 1), nI (i + 1), rA rr 10 (d - 1 - 1) (nI (L / 2 % 2 * (L % 2)))), ?_, ?_, ⟨i + 1, _, d - 1, L / 4 * 2 + L / 2 % 2 * (L % 2), _, by omega, hu', by generalize L / 2 % 2 * (L % 2) = q at *; omega, rfl, rfl, hr.up, ?_⟩, mz 0⟩
            · simp (disch := omega) only [h1, hzi, e, opA L (by omega), Option.bind_some, aI_n, aL_n, aQ_n, sA_n, sL_n, csA_n, i_0, i_1, i_2, i_3, i_4, i_5, i_6, i_7, i_8, i_9, i_10, i_11, i_12, i_13, i_16, i_20, i_21, i_22, i_31, i_99, i_100, i_256, i_1000, nI_eq, nI_leI, nI_ltI, nI_add, pk_mul, ↓reduceIte, nt_le, nf_le, nt_lt, nf_lt, nt_eq, nf_eq, meet_N', meet_P', meet_S', meet_Z', meet_B', meet_O', n_1, n_2, n_3, n_4, n_5, n_10, n_11]
            · unfold fX10_formula_L5_J50 fX10_formula_L5_J64 fX10_formula_L5_J119 fX10_formula_L5_J157
              simp (disch := omega) only [hVi, e, m1_add, pk_sub, k1, k2, nI_and, (bmul _ l3 _ l2).1, Option.bind_some, aI_n, aL_n, aQ_n, sA_n, sL_n, csA_n, i_0, i_1, i_2, i_3, i_4, i_5, i_6, i_7, i_8, i_9, i_10, i_11, i_12, i_13, i_16, i_20, i_21, i_22, i_31, i_99, i_100, i_256, i_1000, nI_eq, nI_leI, nI_ltI, nI_add, pk_mul, ↓reduceIte, nt_le, nf_le, nt_lt, nf_lt, nt_eq, nf_eq, meet_N', meet_P', meet_S', meet_Z', meet_B', meet_O', n_1, n_2, n_3, n_4, n_5, n_10, n_11]
            · exact SRk_new (d' := d - 1) hk (by omega) (by omega) (by omega) (fun e e1 e2 => by rw [div24 L _ e e1 ab, show e + d - (d - 1) = e + 1 by omega])
        · rw [kk, if_neg (by omega), if_pos (Or.inr rfl)] at ss
          by_cases d2 : d < 2
          · rw [if_pos d2] at ss; cases ss
          · rw [if_neg d2] at ss
            obtain rfl := Option.some.inj ss
            have ab : max (L / 2 % 2) (L % 2) < 2 := by omega
            have k1 := hk (d - 1) (by omega)
            have k2 := hk (d - 1 - 1) (by omega)
            rw [show d - 1 - (d - 1) = 0 by omega, Nat.pow_zero, Nat.div_one] at k1
            rw [show d - 1 - (d - 1 - 1) = 1 by omega, Nat.pow_one] at k2
            have hp : 2 ^ (d - 1 + 1) = 2 * 2 ^ (d - 1) := Nat.pow_succ'
            rw [show d - 1 + 1 = d by omega] at hp
            have hp2 : 2 ^ (d - 2 + 1) = 2 * 2 ^ (d - 2) := Nat.pow_succ'
            rw [show d - 2 + 1 = d - 1 by omega] at hp2
            refine ⟨(nI (L / 4 * 2 + max (L / 2 % 2) (L % 2)), nI (i + 1)), (nI (d - 1), nI (i + 1), rA rr 10 (d - 1 - 1) (nI (max (L / 2 % 2) (L % 2)))), ?_, ?_, ⟨i + 1, _, d - 1, L / 4 * 2 + max (L / 2 % 2) (L % 2), _, by omega, hu', by omega, rfl, rfl, hr.up, ?_⟩, mz 0⟩
            · simp (disch := omega) only [h1, hzi, e, opO L (by omega), Option.bind_some, aI_n, aL_n, aQ_n, sA_n, sL_n, csA_n, i_0, i_1, i_2, i_3, i_4, i_5, i_6, i_7, i_8, i_9, i_10, i_11, i_12, i_13, i_16, i_20, i_21, i_22, i_31, i_99, i_100, i_256, i_1000, nI_eq, nI_leI, nI_ltI, nI_add, pk_mul, ↓reduceIte, nt_le, nf_le, nt_lt, nf_lt, nt_eq, nf_eq, meet_N', meet_P', meet_S', meet_Z', meet_B', meet_O', n_1, n_2, n_3, n_4, n_5, n_10, n_11]
            · unfold fX10_formula_L5_J50 fX10_formula_L5_J64 fX10_formula_L5_J119 fX10_formula_L5_J157
              simp (disch := omega) only [hVi, e, m1_add, pk_sub, k1, k2, nI_or, (bmul _ l3 _ l2).2, Option.bind_some, aI_n, aL_n, aQ_n, sA_n, sL_n, csA_n, i_0, i_1, i_2, i_3, i_4, i_5, i_6, i_7, i_8, i_9, i_10, i_11, i_12, i_13, i_16, i_20, i_21, i_22, i_31, i_99, i_100, i_256, i_1000, nI_eq, nI_leI, nI_ltI, nI_add, pk_mul, ↓reduceIte, nt_le, nf_le, nt_lt, nf_lt, nt_eq, nf_eq, meet_N', meet_P', meet_S', meet_Z', meet_B', meet_O', n_1, n_2, n_3, n_4, n_5, n_10, n_11]
            · exact SRk_new (d' := d - 1) hk (by omega) (by omega) (by omega) (fun e e1 e2 => by rw [div24 L _ e e1 ab, show e + d - (d - 1) = e + 1 by omega])
        · rw [kk, if_neg (by omega), if_neg (by omega), if_pos rfl] at ss
          by_cases d1 : d < 1
          · rw [if_pos d1] at ss; cases ss
          · rw [if_neg d1] at ss
            obtain rfl := Option.some.inj ss
            have k1 := hk (d - 1) (by omega)
            rw [show d - 1 - (d - 1) = 0 by omega, Nat.pow_zero, Nat.div_one] at k1
            have on := opN L (by omega)
            have hxl : L ^^^ 1 < 2 ^ d := Nat.xor_lt_two_pow hL (Nat.one_lt_two_pow (by omega))
            refine ⟨(nI (L ^^^ 1), nI (i + 1)), (nI d, nI (i + 1), rA rr 10 (d - 1) (nI (1 - L % 2))), ?_, ?_, ⟨i + 1, _, d, L ^^^ 1, _, by omega, hu', hxl, rfl, rfl, hr.up, ?_⟩, mz 0⟩
            · simp (disch := omega) only [h1, hzi, e, nI_xor, Option.bind_some, aI_n, aL_n, aQ_n, sA_n, sL_n, csA_n, i_0, i_1, i_2, i_3, i_4, i_5, i_6, i_7, i_8, i_9, i_10, i_11, i_12, i_13, i_16, i_20, i_21, i_22, i_31, i_99, i_100, i_256, i_1000, nI_eq, nI_leI, nI_ltI, nI_add, pk_mul, ↓reduceIte, nt_le, nf_le, nt_lt, nf_lt, nt_eq, nf_eq, meet_N', meet_P', meet_S', meet_Z', meet_B', meet_O', n_1, n_2, n_3, n_4, n_5, n_10, n_11]
            · unfold fX10_formula_L5_J50 fX10_formula_L5_J123 fX10_formula_L5_J157
              simp (disch := omega) only [hVi, e, pk_sub, k1, Option.bind_some, aI_n, aL_n, aQ_n, sA_n, sL_n, csA_n, i_0, i_1, i_2, i_3, i_4, i_5, i_6, i_7, i_8, i_9, i_10, i_11, i_12, i_13, i_16, i_20, i_21, i_22, i_31, i_99, i_100, i_256, i_1000, nI_eq, nI_leI, nI_ltI, nI_add, pk_mul, ↓reduceIte, nt_le, nf_le, nt_lt, nf_lt, nt_eq, nf_eq, meet_N', meet_P', meet_S', meet_Z', meet_B', meet_O', n_1, n_2, n_3, n_4, n_5, n_10, n_11]
            · exact SRk_new (d' := d) hk (by omega) (by omega) (on 0 (by omega)).1 (fun e e1 e2 => by rw [(on e (by omega)).2 e1, show e + d - d = e by omega])
        · rw [kk, if_neg (by omega), if_neg (by omega), if_neg (by omega)] at ss
          cases ss
