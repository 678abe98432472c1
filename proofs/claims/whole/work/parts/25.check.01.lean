/-- a leaf, by the reference's word -/
def lfV (V : Nat → Int32) (p : Nat) : Bool := decide (nI 8 ≤ V p)
def OkV (n : Nat) (v : Int32) : Prop := (∃ k, k < n ∧ v = nI k) ∨ v = nI 20 ∨ v = nI 21
def ZT (z z' : CS) : Prop := (∀ k, k ≠ 7 → z'.1 k = z.1 k) ∧ (∀ k, k ≠ 6 → k ≠ 8 → z'.2.1 k = z.2.1 k) ∧ z'.2.2 = z.2.2
theorem ZT.rf {z : CS} : ZT z z := ⟨fun _ _ => rfl, fun _ _ _ => rfl, rfl⟩
theorem ZT.up {z z' : CS} {k i : Nat} {x : Int32} (h : ZT z z') (hk : k = 6 ∨ k = 8) : ZT z (cAr z' k i x) := ⟨h.1, fun j h6 h8 => by rw [cAr_n (by omega)]; exact h.2.1 j h6 h8, h.2.2⟩
theorem ZT.i7 {z z' : CS} {x : Int32} (h : ZT z z') : ZT z (cI z' 7 x) := ⟨fun k hk => by rw [cI_n hk]; exact h.1 k hk, h.2.1, h.2.2⟩
theorem Sim_zt {o : Nat} {z z' : CS} {r : RS} (h : Sim o z r) (hz : ZT z z') : Sim o z' r := by
  obtain ⟨h1, h2, h3, h4, -⟩ := id h
  have hp : z'.2.2.2.2 = z.2.2.2.2 := by rw [hz.2.2]
  have ge : TkGe z z' := TkGe_id (by rw [hp])
  refine Sim_g h (fun k h7 _ _ => hz.1 k h7) (fun k hk => hz.2.1 k (by omega) (by omega)) (by rw [hz.2.2]) ge (fun _ _ => rfl) (fun _ _ => rfl) ?_ (ShR_ge h2 (pool_ge hp) (ShR_okd h2) (by rw [hz.2.2]) ⟨rfl, rfl, rfl⟩) (PlR_all h3 ge (fun j _ => by rw [hz.2.2]) (fun p _ => RSame.rf)) (PlR_all h4 ge (fun j _ => by rw [hz.2.2]) (fun p _ => RSame.rf))
  unfold PoolOK cpl cn at h1 ⊢
  rw [hp]; exact h1
theorem lf_look {V : Nat → Int32} {p k : Nat} (hk : k < 8) (h : V p = nI k) : ¬ lfV V p = true := fun q => by
  have := of_decide_eq_true q
  rw [h] at this
  exact nI_ge hk (by omega) this
theorem lf_leaf {V : Nat → Int32} {p k : Nat} (hk : 8 ≤ k) (hk' : k < 100) (h : V p = nI k) : lfV V p = true := by
  refine decide_eq_true ?_
  rw [h]
  exact nI_le hk (by omega)
/-- the reference's end of a tree -/
theorem behind_n {r : RS} {w p : Nat} {V : Nat → Int32} (hw : w ≤ 100) (hp : p ≤ w) (hV : ∀ k, k < w → r.2.1 7 k = V k) : fX10_behind r (nI p) (nI w) = some (match EE (lfV V) w p 1 with | none => nI (w + 1) | some q => nI q) := by
  have HH := lp_meas (body := fun u => fX10_behind_L5 r (nI w) u.1 u.2) (fun s => ∃ c q, s = (nI c, nI q) ∧ p ≤ q ∧ q ≤ w ∧ c ≤ q - p + 1 ∧ EE (lfV V) w p 1 = EE (lfV V) w q c) (fun s => 1000 - s.2.toNatClampNeg) (fun e => ∃ c q, e = (nI c, nI q) ∧ c ≤ 101 ∧ ((c = 0 ∧ EE (lfV V) w p 1 = some q) ∨ (1 ≤ c ∧ EE (lfV V) w p 1 = none))) (fun s hs => ?_) bigN (nI 1, nI p) ⟨1, p, rfl, Nat.le_refl _, hp, by omega, rfl⟩ (by show 1000 - _ < 1000000000; omega)
  · obtain ⟨e, e1, c, q, rfl, hc, e2⟩ := HH
    unfold fX10_behind
    rcases e2 with ⟨rfl, e2⟩ | ⟨c1, e2⟩
    · rw [e2]
      simp (disch := omega) only [e1, Option.bind_some, aI_n, aL_n, aQ_n, sA_n, sL_n, csA_n, i_0, i_1, i_2, i_3, i_4, i_5, i_6, i_7, i_8, i_9, i_10, i_11, i_12, i_13, i_16, i_20, i_21, i_22, i_31, i_99, i_100, i_256, i_1000, nI_eq, nI_leI, nI_ltI, nI_add, pk_mul, ↓reduceIte, nt_le, nf_le, nt_lt, nf_lt, nt_eq, nf_eq, meet_N', meet_P', meet_S', meet_Z', meet_B', meet_O', n_1, n_2, n_3, n_4, n_5, n_10, n_11]
    · rw [e2]
      simp (disch := omega) only [e1, Option.bind_some, aI_n, aL_n, aQ_n, sA_n, sL_n, csA_n, i_0, i_1, i_2, i_3, i_4, i_5, i_6, i_7, i_8, i_9, i_10, i_11, i_12, i_13, i_16, i_20, i_21, i_22, i_31, i_99, i_100, i_256, i_1000, nI_eq, nI_leI, nI_ltI, nI_add, pk_mul, ↓reduceIte, nt_le, nf_le, nt_lt, nf_lt, nt_eq, nf_eq, meet_N', meet_P', meet_S', meet_Z', meet_B', meet_O', n_1, n_2, n_3, n_4, n_5, n_10, n_11]
  · obtain ⟨c, q, rfl, h1, h2, h3, h4⟩ := hs
    unfold fX10_behind_L5 fX10_behind_L5_J33
    by_cases c0 : c = 0
    · subst c0
      right
      refine ⟨(nI 0, nI q), ?_, 0, q, rfl, by omega, Or.inl ⟨rfl, by rw [h4]; exact EE_0⟩⟩
      simp (disch := omega) only [Option.bind_some, aI_n, aL_n, aQ_n, sA_n, sL_n, csA_n, i_0, i_1, i_2, i_3, i_4, i_5, i_6, i_7, i_8, i_9, i_10, i_11, i_12, i_13, i_16, i_20, i_21, i_22, i_31, i_99, i_100, i_256, i_1000, nI_eq, nI_leI, nI_ltI, nI_add, pk_mul, ↓reduceIte, nt_le, nf_le, nt_lt, nf_lt, nt_eq, nf_eq, meet_N', meet_P', meet_S', meet_Z', meet_B', meet_O', n_1, n_2, n_3, n_4, n_5, n_10, n_11]
    · by_cases hq : w ≤ q
      · right
        refine ⟨(nI c, nI q), ?_, c, q, rfl, by omega, Or.inr ⟨by omega, by rw [h4]; exact EE_n hq (by omega)⟩⟩
        simp (disch := omega) only [Option.bind_some, aI_n, aL_n, aQ_n, sA_n, sL_n, csA_n, i_0, i_1, i_2, i_3, i_4, i_5, i_6, i_7, i_8, i_9, i_10, i_11, i_12, i_13, i_16, i_20, i_21, i_22, i_31, i_99, i_100, i_256, i_1000, nI_eq, nI_leI, nI_ltI, nI_add, pk_mul, ↓reduceIte, nt_le, nf_le, nt_lt, nf_lt, nt_eq, nf_eq, meet_N', meet_P', meet_S', meet_Z', meet_B', meet_O', n_1, n_2, n_3, n_4, n_5, n_10, n_11]
      · left
        have hVq := hV q (by omega)
        have es := EE_s (lf := lfV V) (w := w) (p := q) (c := c) (by omega) (by omega)
        have mz : 1000 - (nI (q + 1)).toNatClampNeg < 1000 - (nI q).toNatClampNeg := by
          rw [nI_clamp (by omega), nI_clamp (by omega)]
          omega
        by_cases hl : nI 8 ≤ V q
        · rw [if_pos (show lfV V q = true from decide_eq_true hl)] at es
          refine ⟨(nI (c - 1), nI (q + 1)), ?_, ⟨c - 1, q + 1, rfl, by omega, by omega, by omega, h4.trans es⟩, mz⟩
          simp (disch := omega) only [hVq, hl, m1_add, Option.bind_some, aI_n, aL_n, aQ_n, sA_n, sL_n, csA_n, i_0, i_1, i_2, i_3, i_4, i_5, i_6, i_7, i_8, i_9, i_10, i_11, i_12, i_13, i_16, i_20, i_21, i_22, i_31, i_99, i_100, i_256, i_1000, nI_eq, nI_leI, nI_ltI, nI_add, pk_mul, ↓reduceIte, nt_le, nf_le, nt_lt, nf_lt, nt_eq, nf_eq, meet_N', meet_P', meet_S', meet_Z', meet_B', meet_O', n_1, n_2, n_3, n_4, n_5, n_10, n_11]
        · rw [if_neg (show ¬ lfV V q = true from fun w => hl (of_decide_eq_true w))] at es
          refine ⟨(nI (c + 1), nI (q + 1)), ?_, ⟨c + 1, q + 1, rfl, by omega, by omega, by omega, h4.trans es⟩, mz⟩
          simp (disch := omega) only [hVq, hl, Option.bind_some, aI_n, aL_n, aQ_n, sA_n, sL_n, csA_n, i_0, i_1, i_2, i_3, i_4, i_5, i_6, i_7, i_8, i_9, i_10, i_11, i_12, i_13, i_16, i_20, i_21, i_22, i_31, i_99, i_100, i_256, i_1000, nI_eq, nI_leI, nI_ltI, nI_add, pk_mul, ↓reduceIte, nt_le, nf_le, nt_lt, nf_lt, nt_eq, nf_eq, meet_N', meet_P', meet_S', meet_Z', meet_B', meet_O', n_1, n_2, n_3, n_4, n_5, n_10, n_11]
/-- a place counted down -/
def lI : Nat → Int32
  | 0 => -nI 1
  | k + 1 => nI k
theorem parse_n {o : Nat} {z : CS} {w n : Nat} {V : Nat → Int32} (hw : w ≤ 100) (n8 : n ≤ 8) (hV : ∀ k, k < w → z.2.1 0 k = V k) : ∃ b z', b ≤ 1 ∧ fX5_parse_12 o z (nI w) (nI n) = some (nI b, z') ∧ ZT z z' ∧ (b = 1 → (∀ p, p < w → OkV n (V p)) ∧ EE (lfV V) w 0 1 = some w ∧ z'.1 7 = nI w ∧ ∀ p, p < w → z'.2.1 6 p = V p ∧ ∃ e, EE (lfV V) w p 1 = some e ∧ z'.2.1 8 p = nI e) ∧ (b = 0 → ¬ ((∀ p, p < w → OkV n (V p)) ∧ EE (lfV V) w 0 1 = some w)) := by
  have HH := lp_upto (body := fun u => fX5_parse_12_L5 o u.2 (nI w) (nI n) u.1) (fun i s => s.1 = lI (w - i) ∧ ZT z s.2 ∧ ∀ p, w - i ≤ p → p < w → OkV n (V p) ∧ s.2.2.1 6 p = V p ∧ ∃ e, EE (lfV V) w p 1 = some e ∧ s.2.2.1 8 p = nI e) w (fun e => (∃ y, e = .inl y ∧ ZT z y ∧ ∀ p, p < w → OkV n (V p) ∧ y.2.1 6 p = V p ∧ ∃ e, EE (lfV V) w p 1 = some e ∧ y.2.1 8 p = nI e) ∨ ∃ y, e = .inr (nI 0, y) ∧ ZT z y ∧ ¬ ((∀ p, p < w → OkV n (V p)) ∧ EE (lfV V) w 0 1 = some w)) (bigN_gt (by omega)) (fun i s hi hs => ?_) (fun s hs => ?_) (s := (lI w, z)) ⟨rfl, ZT.rf, fun p h1 h2 => by omega⟩
  · obtain ⟨e, e1, e2⟩ := HH
    have es : nI w - nI 1 = lI w := by
      cases w with
      | zero => rfl
      | succ k => exact nI_pred k
    unfold fX5_parse_12 fX5_parse_12_J130
    rcases e2 with ⟨y, rfl, y1, y2⟩ | ⟨y, rfl, y1, y2⟩
    · by_cases w0 : w = 0
      · subst w0
        refine ⟨0, cI y 7 (nI 0), by omega, ?_, y1.i7, fun q => by omega, fun _ q => ?_⟩
        · simp (disch := omega) only [es, e1, sel, Option.bind_some, aI_n, aL_n, aQ_n, sA_n, sL_n, csA_n, i_0, i_1, i_2, i_3, i_4, i_5, i_6, i_7, i_8, i_9, i_10, i_11, i_12, i_13, i_16, i_20, i_21, i_22, i_31, i_99, i_100, i_256, i_1000, nI_eq, nI_leI, nI_ltI, nI_add, pk_mul, ↓reduceIte, nt_le, nf_le, nt_lt, nf_lt, nt_eq, nf_eq, meet_N', meet_P', meet_S', meet_Z', meet_B', meet_O', n_1, n_2, n_3, n_4, n_5, n_10, n_11]
        · rw [EE_n (by omega) (by omega)] at q
          cases q.2
      · obtain ⟨o0, v0, e0, a1, a2⟩ := y2 0 (by omega)
        have r := EE_r (lf := lfV V) (w := w) w 0 1 e0 (by omega) a1
        by_cases hew : e0 = w
        · subst hew
          refine ⟨1, cI y 7 (nI e0), by omega, ?_, y1.i7, fun _ => ⟨fun p hp => (y2 p hp).1, a1, cI_e, fun p hp => (y2 p hp).2⟩, fun q => by omega⟩
          have a2' : (cI y 7 (nI e0)).2.1 8 0 = nI e0 := a2
          simp (disch := omega) only [es, e1, sel, a2', Option.bind_some, aI_n, aL_n, aQ_n, sA_n, sL_n, csA_n, i_0, i_1, i_2, i_3, i_4, i_5, i_6, i_7, i_8, i_9, i_10, i_11, i_12, i_13, i_16, i_20, i_21, i_22, i_31, i_99, i_100, i_256, i_1000, nI_eq, nI_leI, nI_ltI, nI_add, pk_mul, ↓reduceIte, nt_le, nf_le, nt_lt, nf_lt, nt_eq, nf_eq, meet_N', meet_P', meet_S', meet_Z', meet_B', meet_O', n_1, n_2, n_3, n_4, n_5, n_10, n_11]
        · refine ⟨0, cI y 7 (nI w), by omega, ?_, y1.i7, fun q => by omega, fun _ q => ?_⟩
          · have a2' : (cI y 7 (nI w)).2.1 8 0 = nI e0 := a2
            have := r.2 (by omega)
            simp (disch := omega) only [es, e1, sel, a2', Option.bind_some, aI_n, aL_n, aQ_n, sA_n, sL_n, csA_n, i_0, i_1, i_2, i_3, i_4, i_5, i_6, i_7, i_8, i_9, i_10, i_11, i_12, i_13, i_16, i_20, i_21, i_22, i_31, i_99, i_100, i_256, i_1000, nI_eq, nI_leI, nI_ltI, nI_add, pk_mul, ↓reduceIte, nt_le, nf_le, nt_lt, nf_lt, nt_eq, nf_eq, meet_N', meet_P', meet_S', meet_Z', meet_B', meet_O', n_1, n_2, n_3, n_4, n_5, n_10, n_11]
          · rw [a1] at q
            exact hew (Option.some.inj q.2)
    · refine ⟨0, y, by omega, ?_, y1, fun q => by omega, fun _ => y2⟩
      simp (disch := omega) only [es, e1, sel, Option.bind_some, aI_n, aL_n, aQ_n, sA_n, sL_n, csA_n, i_0, i_1, i_2, i_3, i_4, i_5, i_6, i_7, i_8, i_9, i_10, i_11, i_12, i_13, i_16, i_20, i_21, i_22, i_31, i_99, i_100, i_256, i_1000, nI_eq, nI_leI, nI_ltI, nI_add, pk_mul, ↓reduceIte, nt_le, nf_le, nt_lt, nf_lt, nt_eq, nf_eq, meet_N', meet_P', meet_S', meet_Z', meet_B', meet_O', n_1, n_2, n_3, n_4, n_5, n_10, n_11]
  · obtain ⟨l, y⟩ := s
    obtain ⟨rfl, s1, s2⟩ := hs
    simp only at s1 s2
    obtain ⟨p, hp⟩ : ∃ p, w - i = p + 1 := ⟨w - i - 1, by omega⟩
    have hpw : p < w := by omega
    have hl : lI (w - i) = nI p := by rw [hp]; rfl
    have hl' : lI (w - (i + 1)) = nI p + -nI 1 := by
      rw [show w - (i + 1) = p by omega]
      cases p with
      | zero => rfl
      | succ k => exact (m1_add (a := k + 1) (by omega)).symm
    have hyV : y.2.1 0 p = V p := by rw [s1.2.1 0 (by omega) (by omega)]; exact hV p hpw
    have st0 := (s1.up (k := 6) (i := p) (x := V p) (by omega)).up (k := 8) (i := p) (x := nI (p + 1)) (by omega)
    -- the places behind
    have old : ∀ (y' : CS), (∀ j, j ≠ p → y'.2.1 6 j = y.2.1 6 j ∧ y'.2.1 8 j = y.2.1 8 j) → OkV n (V p) → y'.2.1 6 p = V p → (∃ e, EE (lfV V) w p 1 = some e ∧ y'.2.1 8 p = nI e) → ∀ j, w - (i + 1) ≤ j → j < w → OkV n (V j) ∧ y'.2.1 6 j = V j ∧ ∃ e, EE (lfV V) w j 1 = some e ∧ y'.2.1 8 j = nI e := by
      intro y' fr ok v6 e8 j h1 h2
      by_cases ej : j = p
      · rw [ej]; exact ⟨ok, v6, e8⟩
      · have := s2 j (by omega) h2
        rw [(fr j ej).1, (fr j ej).2]
        exact this
    have x6 : ∀ v, (cAr (cAr y 6 p (V p)) 8 p v).2.1 6 p = V p := fun v => by rw [cAr_n (by omega)]; exact cAr_s
    have fr : ∀ v j, j ≠ p → (cAr (cAr y 6 p (V p)) 8 p v).2.1 6 j = y.2.1 6 j ∧ (cAr (cAr y 6 p (V p)) 8 p v).2.1 8 j = y.2.1 8 j := fun v j hj => ⟨by rw [cAr_j hj, cAr_j hj], by rw [cAr_j hj, cAr_j hj]⟩
    unfold fX5_parse_12_L5
    rw [hl]
    have leaf : ∀ k, 8 ≤ k → k < 100 → V p = nI k → OkV n (V p) → (lI (w - (i + 1)), cAr (cAr y 6 p (V p)) 8 p (nI (p + 1))).1 = lI (w - (i + 1)) ∧ ZT z (cAr (cAr y 6 p (V p)) 8 p (nI (p + 1))) ∧ ∀ j, w - (i + 1) ≤ j → j < w → OkV n (V j) ∧ (cAr (cAr y 6 p (V p)) 8 p (nI (p + 1))).2.1 6 j = V j ∧ ∃ e, EE (lfV V) w j 1 = some e ∧ (cAr (cAr y 6 p (V p)) 8 p (nI (p + 1))).2.1 8 j = nI e := fun k k8 k100 hk ok => ⟨rfl, st0, old _ (fr _) ok (x6 _) ⟨p + 1, EE_leaf hpw (lf_leaf k8 k100 hk), cAr_s⟩⟩
    by_cases v20 : V p = nI 20
    · left
      refine ⟨(lI (w - (i + 1)), cAr (cAr y 6 p (V p)) 8 p (nI (p + 1))), ?_, leaf 20 (by omega) (by omega) v20 (Or.inr (Or.inl v20))⟩
      unfold fX5_parse_12_L5_J101
      simp (disch := omega) only [hyV, v20, hl', Option.bind_some, aI_n, aL_n, aQ_n, sA_n, sL_n, csA_n, i_0, i_1, i_2, i_3, i_4, i_5, i_6, i_7, i_8, i_9, i_10, i_11, i_12, i_13, i_16, i_20, i_21, i_22, i_31, i_99, i_100, i_256, i_1000, nI_eq, nI_leI, nI_ltI, nI_add, pk_mul, ↓reduceIte, nt_le, nf_le, nt_lt, nf_lt, nt_eq, nf_eq, meet_N', meet_P', meet_S', meet_Z', meet_B', meet_O', n_1, n_2, n_3, n_4, n_5, n_10, n_11]
    · by_cases v21 : V p = nI 21
      · left
        refine ⟨(lI (w - (i + 1)), cAr (cAr y 6 p (V p)) 8 p (nI (p + 1))), ?_, leaf 21 (by omega) (by omega) v21 (Or.inr (Or.inr v21))⟩
        unfold fX5_parse_12_L5_J101
        simp (disch := omega) only [hyV, v21, hl', Option.bind_some, aI_n, aL_n, aQ_n, sA_n, sL_n, csA_n, i_0, i_1, i_2, i_3, i_4, i_5, i_6, i_7, i_8, i_9, i_10, i_11, i_12, i_13, i_16, i_20, i_21, i_22, i_31, i_99, i_100, i_256, i_1000, nI_eq, nI_leI, nI_ltI, nI_add, pk_mul, ↓reduceIte, nt_le, nf_le, nt_lt, nf_lt, nt_eq, nf_eq, meet_N', meet_P', meet_S', meet_Z', meet_B', meet_O', n_1, n_2, n_3, n_4, n_5, n_10, n_11]
      · rcases ix (V p) (n := n) (by omega) with hx | ⟨k, hk, ek⟩
        · right
          have nok : ¬ OkV n (V p) := fun q => by
            rcases q with ⟨k, hk, e⟩ | q | q
            · rw [e] at hx
              rcases hx with a | a
              · exact nI_nlt0 (by omega) a
              · exact nI_ge hk (by omega) a
            · exact v20 q
            · exact v21 q
          refine ⟨.inr (nI 0, cAr (cAr y 6 p (V p)) 8 p (nI (p + 1))), ?_, Or.inr ⟨_, rfl, st0, fun q => nok (q.1 p hpw)⟩⟩
          unfold fX5_parse_12_L5_J80
          by_cases q : V p < nI 0
          · simp (disch := omega) only [hyV, v20, v21, q, Option.bind_some, aI_n, aL_n, aQ_n, sA_n, sL_n, csA_n, i_0, i_1, i_2, i_3, i_4, i_5, i_6, i_7, i_8, i_9, i_10, i_11, i_12, i_13, i_16, i_20, i_21, i_22, i_31, i_99, i_100, i_256, i_1000, nI_eq, nI_leI, nI_ltI, nI_add, pk_mul, ↓reduceIte, nt_le, nf_le, nt_lt, nf_lt, nt_eq, nf_eq, meet_N', meet_P', meet_S', meet_Z', meet_B', meet_O', n_1, n_2, n_3, n_4, n_5, n_10, n_11]
          · simp (disch := omega) only [hyV, v20, v21, q, hx.resolve_left q, Option.bind_some, aI_n, aL_n, aQ_n, sA_n, sL_n, csA_n, i_0, i_1, i_2, i_3, i_4, i_5, i_6, i_7, i_8, i_9, i_10, i_11, i_12, i_13, i_16, i_20, i_21, i_22, i_31, i_99, i_100, i_256, i_1000, nI_eq, nI_leI, nI_ltI, nI_add, pk_mul, ↓reduceIte, nt_le, nf_le, nt_lt, nf_lt, nt_eq, nf_eq, meet_N', meet_P', meet_S', meet_Z', meet_B', meet_O', n_1, n_2, n_3, n_4, n_5, n_10, n_11]
        · have lk := lf_look (V := V) (p := p) (show k < 8 by omega) ek
          have el := EE_look hpw lk
          have hn0 : ¬ V p < nI 0 := by rw [ek]; exact nI_nlt0 (by omega)
          have hnn : ¬ nI n ≤ V p := by rw [ek]; exact nI_ge hk (by omega)
          by_cases hlast : w ≤ p + 1
          · right
            refine ⟨.inr (nI 0, cAr (cAr y 6 p (V p)) 8 p (nI (p + 1))), ?_, Or.inr ⟨_, rfl, st0, fun q => ?_⟩⟩
            · unfold fX5_parse_12_L5_J80
              simp (disch := omega) only [hyV, v20, v21, hn0, hnn, Option.bind_some, aI_n, aL_n, aQ_n, sA_n, sL_n, csA_n, i_0, i_1, i_2, i_3, i_4, i_5, i_6, i_7, i_8, i_9, i_10, i_11, i_12, i_13, i_16, i_20, i_21, i_22, i_31, i_99, i_100, i_256, i_1000, nI_eq, nI_leI, nI_ltI, nI_add, pk_mul, ↓reduceIte, nt_le, nf_le, nt_lt, nf_lt, nt_eq, nf_eq, meet_N', meet_P', meet_S', meet_Z', meet_B', meet_O', n_1, n_2, n_3, n_4, n_5, n_10, n_11]
            · obtain ⟨e, he⟩ := EE_all q.2 hpw
              rw [el, EE_n hlast (by omega)] at he
              cases he
          · obtain ⟨ok1, v61, e1, a1, a2⟩ := s2 (p + 1) (by omega) (by omega)
            have r1 := (EE_r (lf := lfV V) (w := w) (w - (p + 1)) (p + 1) 1 e1 rfl a1).2 (by omega)
            have z8 : (cAr (cAr y 6 p (V p)) 8 p (nI (p + 1))).2.1 8 (p + 1) = nI e1 := by rw [cAr_j (by omega), cAr_j (by omega)]; exact a2
            by_cases he1 : e1 < w
            · left
              obtain ⟨ok2, v62, e2, b1, b2⟩ := s2 e1 (by omega) he1
              have z8' : (cAr (cAr y 6 p (V p)) 8 p (nI (p + 1))).2.1 8 e1 = nI e2 := by rw [cAr_j (by omega), cAr_j (by omega)]; exact b2
              have ep : EE (lfV V) w p 1 = some e2 := by rw [el, a1]; exact b1
              refine ⟨(lI (w - (i + 1)), cAr (cAr (cAr y 6 p (V p)) 8 p (nI (p + 1))) 8 p (nI e2)), ?_, rfl, st0.up (by omega), old _ (fun j hj => ?_) (Or.inl ⟨k, hk, ek⟩) ?_ ⟨e2, ep, cAr_s⟩⟩
              · unfold fX5_parse_12_L5_J101 fX5_branch_12
                simp (disch := omega) only [hyV, v20, v21, hn0, hnn, z8, z8', hl', Option.bind_some, aI_n, aL_n, aQ_n, sA_n, sL_n, csA_n, i_0, i_1, i_2, i_3, i_4, i_5, i_6, i_7, i_8, i_9, i_10, i_11, i_12, i_13, i_16, i_20, i_21, i_22, i_31, i_99, i_100, i_256, i_1000, nI_eq, nI_leI, nI_ltI, nI_add, pk_mul, ↓reduceIte, nt_le, nf_le, nt_lt, nf_lt, nt_eq, nf_eq, meet_N', meet_P', meet_S', meet_Z', meet_B', meet_O', n_1, n_2, n_3, n_4, n_5, n_10, n_11]
              · show (cAr (cAr (cAr y 6 p (V p)) 8 p (nI (p + 1))) 8 p (nI e2)).2.1 6 j = _ ∧ (cAr (cAr (cAr y 6 p (V p)) 8 p (nI (p + 1))) 8 p (nI e2)).2.1 8 j = _
                rw [cAr_j hj, cAr_j (k := 8) (m := 8) (x := nI e2) hj]
                exact fr _ j hj
              · rw [cAr_n (by omega)]
                exact x6 _
            · right
              refine ⟨.inr (nI 0, cAr (cAr y 6 p (V p)) 8 p (nI (p + 1))), ?_, Or.inr ⟨_, rfl, st0, fun q => ?_⟩⟩
              · unfold fX5_parse_12_L5_J80 fX5_branch_12
                simp (disch := omega) only [hyV, v20, v21, hn0, hnn, z8, Option.bind_some, aI_n, aL_n, aQ_n, sA_n, sL_n, csA_n, i_0, i_1, i_2, i_3, i_4, i_5, i_6, i_7, i_8, i_9, i_10, i_11, i_12, i_13, i_16, i_20, i_21, i_22, i_31, i_99, i_100, i_256, i_1000, nI_eq, nI_leI, nI_ltI, nI_add, pk_mul, ↓reduceIte, nt_le, nf_le, nt_lt, nf_lt, nt_eq, nf_eq, meet_N', meet_P', meet_S', meet_Z', meet_B', meet_O', n_1, n_2, n_3, n_4, n_5, n_10, n_11]
              · obtain ⟨e, he⟩ := EE_all q.2 hpw
                rw [el, a1] at he
                have he' : EE (lfV V) w e1 1 = some e := he
                rw [EE_n (by omega) (by omega)] at he'
                cases he'
  · obtain ⟨l, y⟩ := s
    obtain ⟨rfl, s1, s2⟩ := hs
    simp only at s1 s2
    refine ⟨.inl y, ?_, Or.inl ⟨y, rfl, s1, fun p hp => s2 p (by omega) hp⟩⟩
    unfold fX5_parse_12_L5
    rw [show lI (w - w) = -nI 1 by rw [Nat.sub_self]; rfl]
    simp (disch := omega) only [m1gt, Option.bind_some, aI_n, aL_n, aQ_n, sA_n, sL_n, csA_n, i_0, i_1, i_2, i_3, i_4, i_5, i_6, i_7, i_8, i_9, i_10, i_11, i_12, i_13, i_16, i_20, i_21, i_22, i_31, i_99, i_100, i_256, i_1000, nI_eq, nI_leI, nI_ltI, nI_add, pk_mul, ↓reduceIte, nt_le, nf_le, nt_lt, nf_lt, nt_eq, nf_eq, meet_N', meet_P', meet_S', meet_Z', meet_B', meet_O', n_1, n_2, n_3, n_4, n_5, n_10, n_11]
