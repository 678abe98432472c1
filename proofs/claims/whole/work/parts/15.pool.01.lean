theorem cD_s {z : CS} {b : Nat} {x : PE} : cpl (cD z b x) b = some x := if_pos rfl
theorem cD_o {z : CS} {b w : Nat} {x : PE} (h : w ≠ b) : cpl (cD z b x) w = cpl z w := if_neg h
/-! ===== sheets ===== -/
theorem shc {z : CS} {r : RS} (h2 : ShR z r) (a : Int32) : (a < 0 ∨ nI 6 ≤ a) ∨ (∃ s, s < 6 ∧ a = nI s ∧ z.2.2.1 0 s = none ∧ r.2.1 5 s = -1) ∨
    ∃ (s q k n b : Nat) (f : Nat → Int64), s < 6 ∧ a = nI s ∧ z.2.2.1 0 s = some q ∧ ShAt z q k n b f ∧ dS z q = some (nI k, some b) ∧ dL z b = some (n, f) ∧ k ≤ 3 ∧ n ≤ 256 ∧ lnL z b = some (nI n) ∧ (∀ i, i < n → rdL z b (nI i) = some (f i)) ∧ r.2.1 4 s = nI k ∧ r.2.1 5 s = nI n ∧ ∀ i, i < n → r.2.2 6 (256 * s + i) = f i := by
  rcases ix a (n := 6) (by omega) with hx | ⟨s, hs, rfl⟩
  · exact Or.inl hx
  · cases e : z.2.2.1 0 s with
    | none => exact Or.inr (Or.inl ⟨s, hs, rfl, e, (h2.1 s hs).1 e⟩)
    | some q =>
      obtain ⟨k, n, b, f, q1, q2, q3, q4⟩ := (h2.1 s hs).2 q e
      obtain ⟨q5, q6, q7, q8⟩ := id q1
      refine Or.inr (Or.inr ⟨s, q, k, n, b, f, hs, rfl, e, q1, q5, q6, q7, q8, ?_, fun i hi => ?_, q2, q3, q4⟩)
      · unfold lnL; rw [q6]; rfl
      · unfold rdL; rw [q6, Option.bind_some, aL_n _ hi (by omega)]
theorem isSort_out {x : Int32} (h : x < 0 ∨ nI 4 ≤ x) : fX9_isSort x = some 0 := by
  unfold fX9_isSort fX9_isSort_J13
  by_cases h0 : x < 0
  · rw [if_pos h0]
  · rw [if_neg h0, if_pos]
    have := Int32.le_iff_toInt_le.mp (h.resolve_left h0)
    exact Int32.lt_iff_toInt_lt.mpr (by rw [nI_toInt (by omega)] at this; have : (3 : Int32).toInt = 3 := rfl; omega)
theorem isSort_in {k : Nat} (h : k < 4) : fX9_isSort (nI k) = some 1 := by
  unfold fX9_isSort fX9_isSort_J13
  simp (disch := omega) only [Option.bind_some, aI_n, aL_n, aQ_n, sA_n, sL_n, csA_n, i_0, i_1, i_2, i_3, i_4, i_5, i_6, i_7, i_8, i_9, i_10, i_11, i_12, i_13, i_16, i_20, i_21, i_22, i_31, i_99, i_100, i_256, i_1000, nI_eq, nI_leI, nI_ltI, nI_add, pk_mul, ↓reduceIte, nt_le, nf_le, nt_lt, nf_lt, nt_eq, nf_eq, meet_N', meet_P', meet_S', meet_Z', meet_B', meet_O', n_1, n_2, n_3, n_4, n_5, n_10, n_11]
theorem gt3 {x : Int32} (h : nI 4 ≤ x) : (3 : Int32) < x := by
  have := Int32.le_iff_toInt_le.mp h
  exact Int32.lt_iff_toInt_lt.mpr (by rw [nI_toInt (by omega)] at this; have : (3 : Int32).toInt = 3 := rfl; omega)
/-- a row of a sheet is written anew -/
theorem ShR_row {z z' : CS} {r r' : RS} {s q k n b : Nat} {f f' : Nat → Int64} (h : ShR z r) (hs : s < 6) (e : z.2.2.1 0 s = some q) (ha : ShAt z q k n b f) (hz : z' = cD z b (.inr (.inr (.inr (n, f'))))) (h4 : r'.2.1 4 = r.2.1 4) (h5 : r'.2.1 5 = r.2.1 5) (hr : ∀ i, i < n → r'.2.2 6 (256 * s + i) = f' i) (ho : ∀ t i, t < 6 → t ≠ s → i < 256 → r'.2.2 6 (256 * t + i) = r.2.2 6 (256 * t + i)) : ShR z' r' := by
  subst hz
  obtain ⟨a1, a2, a3, a4⟩ := id ha
  have eS : ∀ w, dS (cD z b (.inr (.inr (.inr (n, f'))))) w = dS z w := fun w => by
    by_cases hw : w = b
    · subst hw
      unfold dS
      rw [dL_s a2]
      rw [cD_s]
    · unfold dS
      rw [cD_o hw]
  have eL : ∀ w, w ≠ b → dL (cD z b (.inr (.inr (.inr (n, f'))))) w = dL z w := fun w hw => by
    unfold dL
    rw [cD_o hw]
  have eB : dL (cD z b (.inr (.inr (.inr (n, f'))))) b = some (n, f') := by
    unfold dL
    rw [cD_s]
  have key : ∀ t w, t < 6 → z.2.2.1 0 t = some w → ∀ k1 n1 c f1, ShAt z w k1 n1 c f1 → (t = s ∧ c = b) ∨ (t ≠ s ∧ c ≠ b) := by
    intro t w ht et k1 n1 c f1 hc
    by_cases hts : t = s
    · subst hts
      obtain rfl := Option.some.inj (et.symm.trans e)
      have := hc.1.symm.trans a1
      simp only [Option.some.injEq, Prod.mk.injEq] at this
      exact Or.inl ⟨rfl, this.2⟩
    · refine Or.inr ⟨hts, fun hcb => ?_⟩
      subst hcb
      exact hts (h.2 t s w q k1 n1 c f1 k n f ht hs et e hc ha)
  refine ⟨fun t ht => ⟨fun et => by rw [h5]; exact (h.1 t ht).1 et, fun w et => ?_⟩, fun t u w w' k1 n1 c f1 k2 n2 f2 ht hu e1 e2 c1 c2 => ?_⟩
  · obtain ⟨k1, n1, c, f1, q1, q2, q3, q4⟩ := (h.1 t ht).2 w et
    rcases key t w ht et k1 n1 c f1 q1 with ⟨rfl, rfl⟩ | ⟨hts, hcb⟩
    · have hn : n1 = n := by
        have := q1.2.1.symm.trans a2
        simp only [Option.some.injEq, Prod.mk.injEq] at this
        exact this.1
      subst hn
      exact ⟨k1, n1, c, f', ⟨by rw [eS]; exact q1.1, eB, q1.2.2⟩, by rw [h4]; exact q2, by rw [h5]; exact q3, hr⟩
    · have := q1.2.2.2
      exact ⟨k1, n1, c, f1, ⟨by rw [eS]; exact q1.1, by rw [eL c hcb]; exact q1.2.1, q1.2.2⟩, by rw [h4]; exact q2, by rw [h5]; exact q3, fun i hi => by rw [ho t i ht hts (by omega)]; exact q4 i hi⟩
  · obtain ⟨k3, n3, c3, f3, q1, q2⟩ := (h.1 t ht).2 w e1
    obtain ⟨k4, n4, c4, f4, q3, q4⟩ := (h.1 u hu).2 w' e2
    have x1 := (eS w).symm.trans c1.1
    have x2 := (eS w').symm.trans c2.1
    have x3 := q1.1.symm.trans x1
    have x4 := q3.1.symm.trans x2
    simp only [Option.some.injEq, Prod.mk.injEq] at x3 x4
    obtain ⟨-, rfl⟩ := x3
    obtain ⟨-, y4⟩ := x4
    subst y4
    exact h.2 t u w w' k3 n3 _ f3 k4 n4 f4 ht hu e1 e2 q1 q3
theorem Sim_row {o : Nat} {z : CS} {r r' : RS} {s q k n b : Nat} {f f' : Nat → Int64} (h : Sim o z r) (hs : s < 6) (e : z.2.2.1 0 s = some q) (ha : ShAt z q k n b f) (h1 : r'.1 = r.1) (h2 : r'.2.1 = r.2.1) (hr : ∀ i, i < n → r'.2.2 6 (256 * s + i) = f' i) (ho : ∀ t i, t < 6 → t ≠ s → i < 256 → r'.2.2 6 (256 * t + i) = r.2.2 6 (256 * t + i)) : Sim o (cD z b (.inr (.inr (.inr (n, f'))))) r' := by
  obtain ⟨g1, g2, g3, g4, -⟩ := id h
  have hb := dL_s ha.2.1
  have ge : TkGe z (cD z b (.inr (.inr (.inr (n, f'))))) := by
    refine ⟨fun w t et => ?_, fun w t et => ?_⟩
    · have hw : w ≠ b := fun q => by subst q; rw [dT_s et] at hb; cases hb
      unfold dT
      rw [cD_o hw]; exact et
    · have hw : w ≠ b := fun q => by subst q; rw [dB_s et] at hb; cases hb
      unfold dB
      rw [cD_o hw]; exact et
  refine Sim_g h (fun _ _ _ _ => rfl) (fun _ _ => rfl) rfl ge (fun k _ => congrFun h1 k) (fun k _ => congrFun h2 k) ⟨g1.1, fun w x ew => ?_⟩ (ShR_row g2 hs e ha rfl (by rw [h2]) (by rw [h2]) hr ho) (PlR_all g3 ge (fun _ _ => rfl) (fun p _ => ?_)) (PlR_all g4 ge (fun _ _ => rfl) (fun p _ => ?_))
  · by_cases hw : w = b
    · subst hw; exact g1.2 w _ hb
    · refine g1.2 w x ?_
      have ew' : (if w = b then some (Sum.inr (Sum.inr (Sum.inr (n, f')))) else cpl z w : Option PE) = some x := ew
      rw [if_neg hw] at ew'; exact ew'
  · unfold RSame; rw [h2]; exact ⟨rfl, rfl, rfl, fun _ _ => rfl⟩
  · unfold RSame; rw [h2]; exact ⟨rfl, rfl, rfl, fun _ _ => rfl⟩
theorem St_write_ok : St_write Sim := by
  intro o z r a1 a2 a3 h
  obtain ⟨h1, h2, h3⟩ := id h
  unfold fX9_write fX9_write_J44 fX10_write fX10_write_J40 fX10_write_J104
  rcases shc h2 a1 with hx | ⟨s, hs, rfl, e, e'⟩ | ⟨s, q, k, n, b, f, hs, rfl, e, sa, d1, d2, k3, n8, d3, d4, r4, r5, r6⟩
  · exact ⟨(-2, z), (-2, r), by simp (disch := omega) only [isSh9_out hx, Option.bind_some, aI_n, aL_n, aQ_n, sA_n, sL_n, csA_n, i_0, i_1, i_2, i_3, i_4, i_5, i_6, i_7, i_8, i_9, i_10, i_11, i_12, i_13, i_16, i_20, i_21, i_22, i_31, i_99, i_100, i_256, i_1000, nI_eq, nI_leI, nI_ltI, nI_add, pk_mul, ↓reduceIte, nt_le, nf_le, nt_lt, nf_lt, nt_eq, nf_eq, meet_N', meet_P', meet_S', meet_Z', meet_B', meet_O', n_1, n_2, n_3, n_4, n_5, n_10, n_11], by simp (disch := omega) only [isSh10_out hx, Option.bind_some, aI_n, aL_n, aQ_n, sA_n, sL_n, csA_n, i_0, i_1, i_2, i_3, i_4, i_5, i_6, i_7, i_8, i_9, i_10, i_11, i_12, i_13, i_16, i_20, i_21, i_22, i_31, i_99, i_100, i_256, i_1000, nI_eq, nI_leI, nI_ltI, nI_add, pk_mul, ↓reduceIte, nt_le, nf_le, nt_lt, nf_lt, nt_eq, nf_eq, meet_N', meet_P', meet_S', meet_Z', meet_B', meet_O', n_1, n_2, n_3, n_4, n_5, n_10, n_11], rfl, h⟩
  · refine ⟨(-10, _), (-10, _), ?_, ?_, rfl, Sim_met h⟩
    · simp (disch := omega) only [isSh9_in hs, e, counted_n, Option.bind_some, aI_n, aL_n, aQ_n, sA_n, sL_n, csA_n, i_0, i_1, i_2, i_3, i_4, i_5, i_6, i_7, i_8, i_9, i_10, i_11, i_12, i_13, i_16, i_20, i_21, i_22, i_31, i_99, i_100, i_256, i_1000, nI_eq, nI_leI, nI_ltI, nI_add, pk_mul, ↓reduceIte, nt_le, nf_le, nt_lt, nf_lt, nt_eq, nf_eq, meet_N', meet_P', meet_S', meet_Z', meet_B', meet_O', n_1, n_2, n_3, n_4, n_5, n_10, n_11] <;> rfl
    · simp (disch := omega) only [isSh10_in hs, Option.bind_some, aI_n, aL_n, aQ_n, sA_n, sL_n, csA_n, i_0, i_1, i_2, i_3, i_4, i_5, i_6, i_7, i_8, i_9, i_10, i_11, i_12, i_13, i_16, i_20, i_21, i_22, i_31, i_99, i_100, i_256, i_1000, nI_eq, nI_leI, nI_ltI, nI_add, pk_mul, ↓reduceIte, nt_le, nf_le, nt_lt, nf_lt, nt_eq, nf_eq, meet_N', meet_P', meet_S', meet_Z', meet_B', meet_O', n_1, n_2, n_3, n_4, n_5, n_10, n_11]
      rw [e', if_neg (by decide)]; rfl
  · rcases ix a2 (n := n) (by omega) with hx | ⟨i, hi, rfl⟩
    · refine ⟨(-11, _), (-11, _), ?_, ?_, rfl, Sim_met h⟩
      · simp (disch := omega) only [isSh9_in hs, e, counted_n, qc, d1, d3, Option.bind_some, aI_n, aL_n, aQ_n, sA_n, sL_n, csA_n, i_0, i_1, i_2, i_3, i_4, i_5, i_6, i_7, i_8, i_9, i_10, i_11, i_12, i_13, i_16, i_20, i_21, i_22, i_31, i_99, i_100, i_256, i_1000, nI_eq, nI_leI, nI_ltI, nI_add, pk_mul, ↓reduceIte, nt_le, nf_le, nt_lt, nf_lt, nt_eq, nf_eq, meet_N', meet_P', meet_S', meet_Z', meet_B', meet_O', n_1, n_2, n_3, n_4, n_5, n_10, n_11]
        by_cases h0 : a2 < nI 0
        · rw [if_pos h0]; rfl
        · rw [if_neg h0, if_neg (ge_nlt (by omega) (hx.resolve_left h0))]; rfl
      · simp (disch := omega) only [isSh10_in hs, r5, meet_P, Option.bind_some, aI_n, aL_n, aQ_n, sA_n, sL_n, csA_n, i_0, i_1, i_2, i_3, i_4, i_5, i_6, i_7, i_8, i_9, i_10, i_11, i_12, i_13, i_16, i_20, i_21, i_22, i_31, i_99, i_100, i_256, i_1000, nI_eq, nI_leI, nI_ltI, nI_add, pk_mul, ↓reduceIte, nt_le, nf_le, nt_lt, nf_lt, nt_eq, nf_eq, meet_N', meet_P', meet_S', meet_Z', meet_B', meet_O', n_1, n_2, n_3, n_4, n_5, n_10, n_11]
        by_cases h0 : a2 < nI 0
        · rw [if_pos h0]; rfl
        · rw [if_neg h0, if_neg (ge_nlt (by omega) (hx.resolve_left h0))]; rfl
    · have hv : ∃ v, fX9_narrowed (nI k) a3 = some v := by
        unfold fX9_narrowed
        by_cases c0 : nI k = 0
        · rw [if_pos c0]; exact ⟨_, rfl⟩
        · rw [if_neg c0]
          by_cases c1 : nI k = 1
          · rw [if_pos c1]; exact ⟨_, rfl⟩
          · rw [if_neg c1]
            by_cases c2 : nI k = 2
            · rw [if_pos c2]; exact ⟨_, rfl⟩
            · rw [if_neg c2]; exact ⟨_, rfl⟩
      obtain ⟨v, hv⟩ := hv
      have hs6 : Sim o (cD z b (.inr (.inr (.inr (n, vp_updL f i v))))) (rL r 6 (256 * s + i) v) := by
        refine Sim_row h hs e sa rfl rfl (fun j hj => ?_) (fun t j ht hts hj => ?_)
        · show (if (6 : Nat) = 6 then vp_updL (r.2.2 6) (256 * s + i) v else r.2.2 6) (256 * s + j) = _
          rw [if_pos rfl]
          by_cases hji : j = i
          · subst hji; rw [pk_uLs, pk_uLs]
          · rw [pk_uLn (by omega), pk_uLn hji]; exact r6 j hj
        · show (if (6 : Nat) = 6 then vp_updL (r.2.2 6) (256 * s + i) v else r.2.2 6) (256 * t + j) = _
          rw [if_pos rfl, pk_uLn (by omega)]
      refine ⟨(nI n, cD z b (.inr (.inr (.inr (n, vp_updL f i v))))), (nI n, rL r 6 (256 * s + i) v), ?_, ?_, rfl, hs6⟩
      · have hst : stL o z b (nI i) v = some (cD z b (.inr (.inr (.inr (n, vp_updL f i v))))) := by
          unfold stL
          rw [d2, Option.bind_some, if_pos ⟨ib_nI hi (by omega), (h1.2 _ _ (dL_s d2)).1⟩, nI_clamp (by omega)]
        have hln : lnL (cD z b (.inr (.inr (.inr (n, vp_updL f i v))))) b = some (nI n) := by
          unfold lnL dL
          rw [cD_s]; rfl
        have hd1 : dS (cD z b (.inr (.inr (.inr (n, vp_updL f i v))))) q = some (nI k, some b) := by
          have hb := dL_s d2
          have hq : q ≠ b := fun w => by subst w; rw [dS_s d1] at hb; cases hb
          unfold dS
          rw [cD_o hq]; exact d1
        simp (disch := omega) only [isSh9_in hs, e, qc, d1, d3, hv, hst, hd1, hln, Option.bind_some, aI_n, aL_n, aQ_n, sA_n, sL_n, csA_n, i_0, i_1, i_2, i_3, i_4, i_5, i_6, i_7, i_8, i_9, i_10, i_11, i_12, i_13, i_16, i_20, i_21, i_22, i_31, i_99, i_100, i_256, i_1000, nI_eq, nI_leI, nI_ltI, nI_add, pk_mul, ↓reduceIte, nt_le, nf_le, nt_lt, nf_lt, nt_eq, nf_eq, meet_N', meet_P', meet_S', meet_Z', meet_B', meet_O', n_1, n_2, n_3, n_4, n_5, n_10, n_11]
      · unfold fX9_narrowed at hv
        rcases (show k = 0 ∨ k = 1 ∨ k = 2 ∨ k = 3 by omega) with rfl | rfl | rfl | rfl
        · rw [if_pos (show nI 0 = 0 from rfl)] at hv
          obtain rfl := Option.some.inj hv
          simp (disch := omega) only [isSh10_in hs, r5, r4, rL_A, Option.bind_some, aI_n, aL_n, aQ_n, sA_n, sL_n, csA_n, i_0, i_1, i_2, i_3, i_4, i_5, i_6, i_7, i_8, i_9, i_10, i_11, i_12, i_13, i_16, i_20, i_21, i_22, i_31, i_99, i_100, i_256, i_1000, nI_eq, nI_leI, nI_ltI, nI_add, pk_mul, ↓reduceIte, nt_le, nf_le, nt_lt, nf_lt, nt_eq, nf_eq, meet_N', meet_P', meet_S', meet_Z', meet_B', meet_O', n_1, n_2, n_3, n_4, n_5, n_10, n_11]
        · rw [if_neg (by decide), if_pos (show nI 1 = 1 from rfl)] at hv
          obtain rfl := Option.some.inj hv
          simp (disch := omega) only [isSh10_in hs, r5, r4, rL_A, Option.bind_some, aI_n, aL_n, aQ_n, sA_n, sL_n, csA_n, i_0, i_1, i_2, i_3, i_4, i_5, i_6, i_7, i_8, i_9, i_10, i_11, i_12, i_13, i_16, i_20, i_21, i_22, i_31, i_99, i_100, i_256, i_1000, nI_eq, nI_leI, nI_ltI, nI_add, pk_mul, ↓reduceIte, nt_le, nf_le, nt_lt, nf_lt, nt_eq, nf_eq, meet_N', meet_P', meet_S', meet_Z', meet_B', meet_O', n_1, n_2, n_3, n_4, n_5, n_10, n_11]
        · rw [if_neg (by decide), if_neg (by decide), if_pos (show nI 2 = 2 from rfl)] at hv
          obtain rfl := Option.some.inj hv
          simp (disch := omega) only [isSh10_in hs, r5, r4, rL_A, Option.bind_some, aI_n, aL_n, aQ_n, sA_n, sL_n, csA_n, i_0, i_1, i_2, i_3, i_4, i_5, i_6, i_7, i_8, i_9, i_10, i_11, i_12, i_13, i_16, i_20, i_21, i_22, i_31, i_99, i_100, i_256, i_1000, nI_eq, nI_leI, nI_ltI, nI_add, pk_mul, ↓reduceIte, nt_le, nf_le, nt_lt, nf_lt, nt_eq, nf_eq, meet_N', meet_P', meet_S', meet_Z', meet_B', meet_O', n_1, n_2, n_3, n_4, n_5, n_10, n_11]
        · rw [if_neg (by decide), if_neg (by decide), if_neg (by decide)] at hv
          obtain rfl := Option.some.inj hv
          simp (disch := omega) only [isSh10_in hs, r5, r4, rL_A, Option.bind_some, aI_n, aL_n, aQ_n, sA_n, sL_n, csA_n, i_0, i_1, i_2, i_3, i_4, i_5, i_6, i_7, i_8, i_9, i_10, i_11, i_12, i_13, i_16, i_20, i_21, i_22, i_31, i_99, i_100, i_256, i_1000, nI_eq, nI_leI, nI_ltI, nI_add, pk_mul, ↓reduceIte, nt_le, nf_le, nt_lt, nf_lt, nt_eq, nf_eq, meet_N', meet_P', meet_S', meet_Z', meet_B', meet_O', n_1, n_2, n_3, n_4, n_5, n_10, n_11]
theorem St_look_ok : St_look Sim := by
  intro o z r a1 a2 a3 h
  obtain ⟨h1, h2, h3⟩ := id h
  unfold fX9_look fX9_look_J67 fX9_look_J14 fX10_look fX10_look_J66 fX10_look_J16
  rcases ix a2 (n := 4) (by omega) with hx2 | ⟨k2, hk2, rfl⟩
  · refine ⟨(-2, z), (-2, r), ?_, ?_, rfl, h⟩
    · rcases ix a1 (n := 6) (by omega) with hx | ⟨s, hs, rfl⟩
      · simp (disch := omega) only [isSh9_out hx, Option.bind_some, aI_n, aL_n, aQ_n, sA_n, sL_n, csA_n, i_0, i_1, i_2, i_3, i_4, i_5, i_6, i_7, i_8, i_9, i_10, i_11, i_12, i_13, i_16, i_20, i_21, i_22, i_31, i_99, i_100, i_256, i_1000, nI_eq, nI_leI, nI_ltI, nI_add, pk_mul, ↓reduceIte, nt_le, nf_le, nt_lt, nf_lt, nt_eq, nf_eq, meet_N', meet_P', meet_S', meet_Z', meet_B', meet_O', n_1, n_2, n_3, n_4, n_5, n_10, n_11]
      · simp (disch := omega) only [isSh9_in hs, isSort_out hx2, Option.bind_some, aI_n, aL_n, aQ_n, sA_n, sL_n, csA_n, i_0, i_1, i_2, i_3, i_4, i_5, i_6, i_7, i_8, i_9, i_10, i_11, i_12, i_13, i_16, i_20, i_21, i_22, i_31, i_99, i_100, i_256, i_1000, nI_eq, nI_leI, nI_ltI, nI_add, pk_mul, ↓reduceIte, nt_le, nf_le, nt_lt, nf_lt, nt_eq, nf_eq, meet_N', meet_P', meet_S', meet_Z', meet_B', meet_O', n_1, n_2, n_3, n_4, n_5, n_10, n_11]
    · rcases ix a1 (n := 6) (by omega) with hx | ⟨s, hs, rfl⟩
      · simp (disch := omega) only [isSh10_out hx, Option.bind_some, aI_n, aL_n, aQ_n, sA_n, sL_n, csA_n, i_0, i_1, i_2, i_3, i_4, i_5, i_6, i_7, i_8, i_9, i_10, i_11, i_12, i_13, i_16, i_20, i_21, i_22, i_31, i_99, i_100, i_256, i_1000, nI_eq, nI_leI, nI_ltI, nI_add, pk_mul, ↓reduceIte, nt_le, nf_le, nt_lt, nf_lt, nt_eq, nf_eq, meet_N', meet_P', meet_S', meet_Z', meet_B', meet_O', n_1, n_2, n_3, n_4, n_5, n_10, n_11]
      · simp (disch := omega) only [isSh10_in hs, Option.bind_some, aI_n, aL_n, aQ_n, sA_n, sL_n, csA_n, i_0, i_1, i_2, i_3, i_4, i_5, i_6, i_7, i_8, i_9, i_10, i_11, i_12, i_13, i_16, i_20, i_21, i_22, i_31, i_99, i_100, i_256, i_1000, nI_eq, nI_leI, nI_ltI, nI_add, pk_mul, ↓reduceIte, nt_le, nf_le, nt_lt, nf_lt, nt_eq, nf_eq, meet_N', meet_P', meet_S', meet_Z', meet_B', meet_O', n_1, n_2, n_3, n_4, n_5, n_10, n_11]
        by_cases h0 : a2 < nI 0
        · rw [if_pos h0]
        · rw [if_neg h0, if_neg (out4 (m := 3) (by omega) hx2 h0)]
  rcases shc h2 a1 with hx | ⟨s, hs, rfl, e, e'⟩ | ⟨s, q, k, n, b, f, hs, rfl, e, sa, d1, d2, k3, n8, d3, d4, r4, r5, r6⟩
  · exact ⟨(-2, z), (-2, r), by simp (disch := omega) only [isSh9_out hx, Option.bind_some, aI_n, aL_n, aQ_n, sA_n, sL_n, csA_n, i_0, i_1, i_2, i_3, i_4, i_5, i_6, i_7, i_8, i_9, i_10, i_11, i_12, i_13, i_16, i_20, i_21, i_22, i_31, i_99, i_100, i_256, i_1000, nI_eq, nI_leI, nI_ltI, nI_add, pk_mul, ↓reduceIte, nt_le, nf_le, nt_lt, nf_lt, nt_eq, nf_eq, meet_N', meet_P', meet_S', meet_Z', meet_B', meet_O', n_1, n_2, n_3, n_4, n_5, n_10, n_11], by simp (disch := omega) only [isSh10_out hx, Option.bind_some, aI_n, aL_n, aQ_n, sA_n, sL_n, csA_n, i_0, i_1, i_2, i_3, i_4, i_5, i_6, i_7, i_8, i_9, i_10, i_11, i_12, i_13, i_16, i_20, i_21, i_22, i_31, i_99, i_100, i_256, i_1000, nI_eq, nI_leI, nI_ltI, nI_add, pk_mul, ↓reduceIte, nt_le, nf_le, nt_lt, nf_lt, nt_eq, nf_eq, meet_N', meet_P', meet_S', meet_Z', meet_B', meet_O', n_1, n_2, n_3, n_4, n_5, n_10, n_11], rfl, h⟩
  · refine ⟨(-10, _), (-10, _), ?_, ?_, rfl, Sim_met h⟩
    · simp (disch := omega) only [isSh9_in hs, isSort_in hk2, e, counted_n, Option.bind_some, aI_n, aL_n, aQ_n, sA_n, sL_n, csA_n, i_0, i_1, i_2, i_3, i_4, i_5, i_6, i_7, i_8, i_9, i_10, i_11, i_12, i_13, i_16, i_20, i_21, i_22, i_31, i_99, i_100, i_256, i_1000, nI_eq, nI_leI, nI_ltI, nI_add, pk_mul, ↓reduceIte, nt_le, nf_le, nt_lt, nf_lt, nt_eq, nf_eq, meet_N', meet_P', meet_S', meet_Z', meet_B', meet_O', n_1, n_2, n_3, n_4, n_5, n_10, n_11] <;> rfl
    · simp (disch := omega) only [isSh10_in hs, Option.bind_some, aI_n, aL_n, aQ_n, sA_n, sL_n, csA_n, i_0, i_1, i_2, i_3, i_4, i_5, i_6, i_7, i_8, i_9, i_10, i_11, i_12, i_13, i_16, i_20, i_21, i_22, i_31, i_99, i_100, i_256, i_1000, nI_eq, nI_leI, nI_ltI, nI_add, pk_mul, ↓reduceIte, nt_le, nf_le, nt_lt, nf_lt, nt_eq, nf_eq, meet_N', meet_P', meet_S', meet_Z', meet_B', meet_O', n_1, n_2, n_3, n_4, n_5, n_10, n_11]
      rw [e', if_neg (by decide)]; rfl
  · by_cases hkk : k = k2
    · subst hkk
      rcases ix a3 (n := n) (by omega) with hx | ⟨i, hi, rfl⟩
      · refine ⟨(-11, _), (-11, _), ?_, ?_, rfl, Sim_met h⟩
        · simp (disch := omega) only [isSh9_in hs, isSort_in hk2, e, counted_n, qc, d1, d3, Option.bind_some, aI_n, aL_n, aQ_n, sA_n, sL_n, csA_n, i_0, i_1, i_2, i_3, i_4, i_5, i_6, i_7, i_8, i_9, i_10, i_11, i_12, i_13, i_16, i_20, i_21, i_22, i_31, i_99, i_100, i_256, i_1000, nI_eq, nI_leI, nI_ltI, nI_add, pk_mul, ↓reduceIte, nt_le, nf_le, nt_lt, nf_lt, nt_eq, nf_eq, meet_N', meet_P', meet_S', meet_Z', meet_B', meet_O', n_1, n_2, n_3, n_4, n_5, n_10, n_11]
          by_cases h0 : a3 < nI 0
          · rw [if_pos h0]; rfl
          · rw [if_neg h0, if_neg (ge_nlt (by omega) (hx.resolve_left h0))]; rfl
        · simp (disch := omega) only [isSh10_in hs, r5, r4, meet_P, Option.bind_some, aI_n, aL_n, aQ_n, sA_n, sL_n, csA_n, i_0, i_1, i_2, i_3, i_4, i_5, i_6, i_7, i_8, i_9, i_10, i_11, i_12, i_13, i_16, i_20, i_21, i_22, i_31, i_99, i_100, i_256, i_1000, nI_eq, nI_leI, nI_ltI, nI_add, pk_mul, ↓reduceIte, nt_le, nf_le, nt_lt, nf_lt, nt_eq, nf_eq, meet_N', meet_P', meet_S', meet_Z', meet_B', meet_O', n_1, n_2, n_3, n_4, n_5, n_10, n_11]
          by_cases h0 : a3 < nI 0
          · rw [if_pos h0]; rfl
          · rw [if_neg h0, if_neg (ge_nlt (by omega) (hx.resolve_left h0))]; rfl
      · by_cases c1 : lg_cmp (f i) 0 ≤ nI 0
        · by_cases c2 : lg_cmp (f i) 0 = nI 0
          · refine ⟨(2, z), (2, r), ?_, ?_, rfl, h⟩
            · simp (disch := omega) only [isSh9_in hs, isSort_in hk2, e, counted_n, qc, d1, d3, d4 i hi, c1, c2, Option.bind_some, aI_n, aL_n, aQ_n, sA_n, sL_n, csA_n, i_0, i_1, i_2, i_3, i_4, i_5, i_6, i_7, i_8, i_9, i_10, i_11, i_12, i_13, i_16, i_20, i_21, i_22, i_31, i_99, i_100, i_256, i_1000, nI_eq, nI_leI, nI_ltI, nI_add, pk_mul, ↓reduceIte, nt_le, nf_le, nt_lt, nf_lt, nt_eq, nf_eq, meet_N', meet_P', meet_S', meet_Z', meet_B', meet_O', n_1, n_2, n_3, n_4, n_5, n_10, n_11]
            · simp (disch := omega) only [isSh10_in hs, r5, r4, r6 i hi, c1, c2, Option.bind_some, aI_n, aL_n, aQ_n, sA_n, sL_n, csA_n, i_0, i_1, i_2, i_3, i_4, i_5, i_6, i_7, i_8, i_9, i_10, i_11, i_12, i_13, i_16, i_20, i_21, i_22, i_31, i_99, i_100, i_256, i_1000, nI_eq, nI_leI, nI_ltI, nI_add, pk_mul, ↓reduceIte, nt_le, nf_le, nt_lt, nf_lt, nt_eq, nf_eq, meet_N', meet_P', meet_S', meet_Z', meet_B', meet_O', n_1, n_2, n_3, n_4, n_5, n_10, n_11]
          · refine ⟨(3, z), (3, r), ?_, ?_, rfl, h⟩
            · simp (disch := omega) only [isSh9_in hs, isSort_in hk2, e, counted_n, qc, d1, d3, d4 i hi, c1, c2, Option.bind_some, aI_n, aL_n, aQ_n, sA_n, sL_n, csA_n, i_0, i_1, i_2, i_3, i_4, i_5, i_6, i_7, i_8, i_9, i_10, i_11, i_12, i_13, i_16, i_20, i_21, i_22, i_31, i_99, i_100, i_256, i_1000, nI_eq, nI_leI, nI_ltI, nI_add, pk_mul, ↓reduceIte, nt_le, nf_le, nt_lt, nf_lt, nt_eq, nf_eq, meet_N', meet_P', meet_S', meet_Z', meet_B', meet_O', n_1, n_2, n_3, n_4, n_5, n_10, n_11]
            · simp (disch := omega) only [isSh10_in hs, r5, r4, r6 i hi, c1, c2, Option.bind_some, aI_n, aL_n, aQ_n, sA_n, sL_n, csA_n, i_0, i_1, i_2, i_3, i_4, i_5, i_6, i_7, i_8, i_9, i_10, i_11, i_12, i_13, i_16, i_20, i_21, i_22, i_31, i_99, i_100, i_256, i_1000, nI_eq, nI_leI, nI_ltI, nI_add, pk_mul, ↓reduceIte, nt_le, nf_le, nt_lt, nf_lt, nt_eq, nf_eq, meet_N', meet_P', meet_S', meet_Z', meet_B', meet_O', n_1, n_2, n_3, n_4, n_5, n_10, n_11]
        · refine ⟨(1, z), (1, r), ?_, ?_, rfl, h⟩
          · simp (disch := omega) only [isSh9_in hs, isSort_in hk2, e, counted_n, qc, d1, d3, d4 i hi, c1, Option.bind_some, aI_n, aL_n, aQ_n, sA_n, sL_n, csA_n, i_0, i_1, i_2, i_3, i_4, i_5, i_6, i_7, i_8, i_9, i_10, i_11, i_12, i_13, i_16, i_20, i_21, i_22, i_31, i_99, i_100, i_256, i_1000, nI_eq, nI_leI, nI_ltI, nI_add, pk_mul, ↓reduceIte, nt_le, nf_le, nt_lt, nf_lt, nt_eq, nf_eq, meet_N', meet_P', meet_S', meet_Z', meet_B', meet_O', n_1, n_2, n_3, n_4, n_5, n_10, n_11]
          · simp (disch := omega) only [isSh10_in hs, r5, r4, r6 i hi, c1, Option.bind_some, aI_n, aL_n, aQ_n, sA_n, sL_n, csA_n, i_0, i_1, i_2, i_3, i_4, i_5, i_6, i_7, i_8, i_9, i_10, i_11, i_12, i_13, i_16, i_20, i_21, i_22, i_31, i_99, i_100, i_256, i_1000, nI_eq, nI_leI, nI_ltI, nI_add, pk_mul, ↓reduceIte, nt_le, nf_le, nt_lt, nf_lt, nt_eq, nf_eq, meet_N', meet_P', meet_S', meet_Z', meet_B', meet_O', n_1, n_2, n_3, n_4, n_5, n_10, n_11]
    · refine ⟨(-12, _), (-12, _), ?_, ?_, rfl, Sim_met h⟩
      · simp (disch := omega) only [isSh9_in hs, isSort_in hk2, e, counted_n, qc, d1, d3, Option.bind_some, aI_n, aL_n, aQ_n, sA_n, sL_n, csA_n, i_0, i_1, i_2, i_3, i_4, i_5, i_6, i_7, i_8, i_9, i_10, i_11, i_12, i_13, i_16, i_20, i_21, i_22, i_31, i_99, i_100, i_256, i_1000, nI_eq, nI_leI, nI_ltI, nI_add, pk_mul, ↓reduceIte, nt_le, nf_le, nt_lt, nf_lt, nt_eq, nf_eq, meet_N', meet_P', meet_S', meet_Z', meet_B', meet_O', n_1, n_2, n_3, n_4, n_5, n_10, n_11] <;> rfl
      · simp (disch := omega) only [isSh10_in hs, r5, r4, meet_S, Option.bind_some, aI_n, aL_n, aQ_n, sA_n, sL_n, csA_n, i_0, i_1, i_2, i_3, i_4, i_5, i_6, i_7, i_8, i_9, i_10, i_11, i_12, i_13, i_16, i_20, i_21, i_22, i_31, i_99, i_100, i_256, i_1000, nI_eq, nI_leI, nI_ltI, nI_add, pk_mul, ↓reduceIte, nt_le, nf_le, nt_lt, nf_lt, nt_eq, nf_eq, meet_N', meet_P', meet_S', meet_Z', meet_B', meet_O', n_1, n_2, n_3, n_4, n_5, n_10, n_11] <;> rfl
