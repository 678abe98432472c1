/-! ===== task, set ===== -/
theorem cmp3 (v : Int64) : lg_cmp v 0 = -nI 1 ∨ lg_cmp v 0 = nI 0 ∨ lg_cmp v 0 = nI 1 := by
  unfold lg_cmp
  split
  · exact Or.inr (Or.inr rfl)
  · split
    · exact Or.inr (Or.inl rfl)
    · exact Or.inl rfl
theorem m1le : (-nI 1 ≤ nI 0) = True := by decide
theorem m1ge : (nI 0 ≤ -nI 1) = False := by decide
def sgn (v : Int64) : Nat := if lg_cmp v 0 = -nI 1 then 2 else if lg_cmp v 0 = nI 0 then 0 else 1
theorem sgn_le (v : Int64) : sgn v ≤ 2 := by
  unfold sgn
  split
  · omega
  · split <;> omega
def said (n : Nat) (f : Nat → Int64) (i : Nat) : Nat := if n ≤ i then 2 else sgn (f i)
theorem said_le (n : Nat) (f : Nat → Int64) (i : Nat) : said n f i ≤ 2 := by
  unfold said
  split
  · omega
  · exact sgn_le _
theorem saidBy_n {o : Nat} {z : CS} {q k n b i : Nat} {f : Nat → Int64} (hi : i < 256) (hn : n ≤ 256) (d1 : dS z q = some (nI k, some b)) (d3 : lnL z b = some (nI n)) (d4 : ∀ i, i < n → rdL z b (nI i) = some (f i)) : fX9_saidBy o z q (nI i) = some (nI (said n f i)) := by
  unfold fX9_saidBy fX9_saidBy_J20 fX9_saidBy_J38 said
  by_cases h : n ≤ i
  · rw [if_pos h]
    simp (disch := omega) only [d1, d3, Option.bind_some, aI_n, aL_n, aQ_n, sA_n, sL_n, csA_n, i_0, i_1, i_2, i_3, i_4, i_5, i_6, i_7, i_8, i_9, i_10, i_11, i_12, i_13, i_16, i_20, i_21, i_22, i_31, i_99, i_100, i_256, i_1000, nI_eq, nI_leI, nI_ltI, nI_add, pk_mul, ↓reduceIte, nt_le, nf_le, nt_lt, nf_lt, nt_eq, nf_eq, meet_N', meet_P', meet_S', meet_Z', meet_B', meet_O', n_1, n_2, n_3, n_4, n_5, n_10, n_11]
  · rw [if_neg h]
    unfold sgn
    rcases cmp3 (f i) with c | c | c
    · rw [if_pos c]
      simp (disch := omega) only [d1, d3, d4 i (by omega), c, m1ge, Option.bind_some, aI_n, aL_n, aQ_n, sA_n, sL_n, csA_n, i_0, i_1, i_2, i_3, i_4, i_5, i_6, i_7, i_8, i_9, i_10, i_11, i_12, i_13, i_16, i_20, i_21, i_22, i_31, i_99, i_100, i_256, i_1000, nI_eq, nI_leI, nI_ltI, nI_add, pk_mul, ↓reduceIte, nt_le, nf_le, nt_lt, nf_lt, nt_eq, nf_eq, meet_N', meet_P', meet_S', meet_Z', meet_B', meet_O', n_1, n_2, n_3, n_4, n_5, n_10, n_11]
    · rw [if_neg (by rw [c]; decide), if_pos c]
      simp (disch := omega) only [d1, d3, d4 i (by omega), c, Option.bind_some, aI_n, aL_n, aQ_n, sA_n, sL_n, csA_n, i_0, i_1, i_2, i_3, i_4, i_5, i_6, i_7, i_8, i_9, i_10, i_11, i_12, i_13, i_16, i_20, i_21, i_22, i_31, i_99, i_100, i_256, i_1000, nI_eq, nI_leI, nI_ltI, nI_add, pk_mul, ↓reduceIte, nt_le, nf_le, nt_lt, nf_lt, nt_eq, nf_eq, meet_N', meet_P', meet_S', meet_Z', meet_B', meet_O', n_1, n_2, n_3, n_4, n_5, n_10, n_11]
      rfl
    · rw [if_neg (by rw [c]; decide), if_neg (by rw [c]; decide)]
      simp (disch := omega) only [d1, d3, d4 i (by omega), c, Option.bind_some, aI_n, aL_n, aQ_n, sA_n, sL_n, csA_n, i_0, i_1, i_2, i_3, i_4, i_5, i_6, i_7, i_8, i_9, i_10, i_11, i_12, i_13, i_16, i_20, i_21, i_22, i_31, i_99, i_100, i_256, i_1000, nI_eq, nI_leI, nI_ltI, nI_add, pk_mul, ↓reduceIte, nt_le, nf_le, nt_lt, nf_lt, nt_eq, nf_eq, meet_N', meet_P', meet_S', meet_Z', meet_B', meet_O', n_1, n_2, n_3, n_4, n_5, n_10, n_11]
      rfl
theorem zB_0 {z : CS} {m : Nat} {G : Nat → Nat} (hG : ∀ x, G x = 0) (i j : Nat) : zB z m G i = zB z m G j := by
  unfold zB
  have : rowf G i = rowf G j := by
    funext x
    unfold rowf
    rw [hG]
    split <;> split <;> rfl
  rw [this]
theorem J98_n {r : RS} {p i s : Nat} (hp : p < 16) (hi : i < 256) (v : Int64) : fX10_task_L45_J98 r (nI p) (nI s) (nI i) v = some (.inl (nI (i + 1), rA r 3 (256 * p + i) (nI (sgn v)))) := by
  unfold fX10_task_L45_J98 fX10_task_L45_J135
  rcases cmp3 v with c | c | c
  · rw [show sgn v = 2 by unfold sgn; rw [if_pos c]]
    simp (disch := omega) only [c, m1le, n_1, Option.bind_some, aI_n, aL_n, aQ_n, sA_n, sL_n, csA_n, i_0, i_1, i_2, i_3, i_4, i_5, i_6, i_7, i_8, i_9, i_10, i_11, i_12, i_13, i_16, i_20, i_21, i_22, i_31, i_99, i_100, i_256, i_1000, nI_eq, nI_leI, nI_ltI, nI_add, pk_mul, ↓reduceIte, nt_le, nf_le, nt_lt, nf_lt, nt_eq, nf_eq, meet_N', meet_P', meet_S', meet_Z', meet_B', meet_O', n_1, n_2, n_3, n_4, n_5, n_10, n_11]
  · rw [show sgn v = 0 by unfold sgn; rw [c, if_neg (by decide), if_pos rfl]]
    simp (disch := omega) only [c, Option.bind_some, aI_n, aL_n, aQ_n, sA_n, sL_n, csA_n, i_0, i_1, i_2, i_3, i_4, i_5, i_6, i_7, i_8, i_9, i_10, i_11, i_12, i_13, i_16, i_20, i_21, i_22, i_31, i_99, i_100, i_256, i_1000, nI_eq, nI_leI, nI_ltI, nI_add, pk_mul, ↓reduceIte, nt_le, nf_le, nt_lt, nf_lt, nt_eq, nf_eq, meet_N', meet_P', meet_S', meet_Z', meet_B', meet_O', n_1, n_2, n_3, n_4, n_5, n_10, n_11]
  · rw [show sgn v = 1 by unfold sgn; rw [c, if_neg (by decide), if_neg (by decide)]]
    simp (disch := omega) only [c, Option.bind_some, aI_n, aL_n, aQ_n, sA_n, sL_n, csA_n, i_0, i_1, i_2, i_3, i_4, i_5, i_6, i_7, i_8, i_9, i_10, i_11, i_12, i_13, i_16, i_20, i_21, i_22, i_31, i_99, i_100, i_256, i_1000, nI_eq, nI_leI, nI_ltI, nI_add, pk_mul, ↓reduceIte, nt_le, nf_le, nt_lt, nf_lt, nt_eq, nf_eq, meet_N', meet_P', meet_S', meet_Z', meet_B', meet_O', n_1, n_2, n_3, n_4, n_5, n_10, n_11]
theorem sgn_0 : sgn 0 = 0 := by decide
theorem sgn_m : sgn (-1) = 2 := by decide
theorem task_ref {r : RS} {p s n : Nat} {G : Nat → Nat} (hp : p < 8) (hs : s < 6) (h1 : 1 ≤ n) (h8 : n ≤ 8) (hG : ∀ x, G x ≤ 2) (step : ∀ i rr, i < 2 ^ n → rr.2.2 = r.2.2 → rr.2.1 5 = r.2.1 5 → rr.2.1 0 p = nI n → fX10_task_L45 rr (nI p) (nI s) (nI i) = some (.inl (nI (i + 1), rA rr 3 (256 * p + i) (nI (G i))))) : ∃ r', fX10_task r (nI p) (nI n) (nI s) = some (nI (cnt (rowg G (2 ^ n)) 2 (2 ^ n)), r') ∧ r'.1 = r.1 ∧ r'.2.2 = r.2.2 ∧ (∀ k, 4 ≤ k → r'.2.1 k = r.2.1 k) ∧ (∀ j, j < 16 → j ≠ p → RSame r r' j) ∧ TkR r' p n (nI 0) (nI n) (rowg G (2 ^ n)) := by
  have p2 := p2le h8
  have q0 : (rA (rA r 0 p (nI n)) 1 p (nI 0)).2.1 0 p = nI n := if_pos rfl
  obtain ⟨e, g1, g2, g3, g4, g5, g6⟩ := fillA (body := fun u => fX10_task_L45 u.2 (nI p) (nI s) u.1) (r0 := rA (rA r 0 p (nI n)) 1 p (nI 0)) (k := 3) (base := 256 * p) (N := 2 ^ n) (v := fun i => nI (G i)) (by omega) (fun i rr hi e1 e2 e3 _ _ => step i rr hi e2 (e3 5 (by omega)) (by rw [e3 0 (by omega)]; exact q0)) (fun rr e1 e2 e3 => by
    unfold fX10_task_L45
    simp (disch := omega) only [inputs_n (show p < 16 by omega) (show rr.2.1 0 p = nI n by rw [e3 0 (by omega)]; exact q0) h8, Option.bind_some, aI_n, aL_n, aQ_n, sA_n, sL_n, csA_n, i_0, i_1, i_2, i_3, i_4, i_5, i_6, i_7, i_8, i_9, i_10, i_11, i_12, i_13, i_16, i_20, i_21, i_22, i_31, i_99, i_100, i_256, i_1000, nI_eq, nI_leI, nI_ltI, nI_add, pk_mul, ↓reduceIte, nt_le, nf_le, nt_lt, nf_lt, nt_eq, nf_eq, meet_N', meet_P', meet_S', meet_Z', meet_B', meet_O', n_1, n_2, n_3, n_4, n_5, n_10, n_11])
  · have e0 : e.2.1 0 = upd (r.2.1 0) p (nI n) := g4 0 (by omega)
    have e1 : e.2.1 1 = upd (r.2.1 1) p (nI 0) := g4 1 (by omega)
    have e2 : e.2.1 2 = r.2.1 2 := g4 2 (by omega)
    have tk : TkR e p n (nI 0) (nI n) G := ⟨by rw [e0, pk_us], by rw [e1, pk_us], Or.inl ⟨rfl, rfl⟩, g5⟩
    refine ⟨e, ?_, g2, g3, fun k hk => ?_, fun j hj hjp => ⟨by rw [e0, pk_un hjp], by rw [e1, pk_un hjp], by rw [e2], fun x hx => g6 _ (by omega)⟩, TkR_row tk⟩
    · unfold fX10_task
      simp (disch := omega) only [isPl10_in hp, isSh10_in hs, Option.bind_some, aI_n, aL_n, aQ_n, sA_n, sL_n, csA_n, i_0, i_1, i_2, i_3, i_4, i_5, i_6, i_7, i_8, i_9, i_10, i_11, i_12, i_13, i_16, i_20, i_21, i_22, i_31, i_99, i_100, i_256, i_1000, nI_eq, nI_leI, nI_ltI, nI_add, pk_mul, ↓reduceIte, nt_le, nf_le, nt_lt, nf_lt, nt_eq, nf_eq, meet_N', meet_P', meet_S', meet_Z', meet_B', meet_O', n_1, n_2, n_3, n_4, n_5, n_10, n_11]
      refine (congrArg (fun u => u.bind fun e10 => (fX10_opens e10 (nI p)).bind fun q11 => some (q11, e10)) g1).trans ?_
      rw [Option.bind_some, opens_n (by omega) (TkR_row tk) h8 (fun x => ?_)]
      · rfl
      · unfold rowg
        split
        · exact hG x
        · omega
    · rw [g4 k (by omega)]
      simp only [rA_A, if_neg (show ¬ k = 0 by omega), if_neg (show ¬ k = 1 by omega)]
theorem task_cls {o : Nat} {z : CS} {p n : Nat} {G : Nat → Nat} (h : PoolOK o z) (hp : p < 8) (h1 : 1 ≤ n) (h8 : n ≤ 8) (hG : ∀ x, x < 2 ^ n → G x ≤ 2) : fX9_task_J77 o (zB z (2 ^ n) G (2 ^ n)) (nI p) (nI n) (cn z) = some (nI (cnt (rowg G (2 ^ n)) 2 (2 ^ n)), cQ (cNw (zB z (2 ^ n) G (2 ^ n)) (.inl (nI 0, nI n, nI n, some (cn z)))) 1 p (some (cn (zB z (2 ^ n) G (2 ^ n))))) := by
  have ht := TkAt_z h (kd := nI 0) (wt := nI n) h1 h8 hG
  have ht' : TkAt (cQ (cNw (zB z (2 ^ n) G (2 ^ n)) (.inl (nI 0, nI n, nI n, some (cn z)))) 1 p (some (cn (zB z (2 ^ n) G (2 ^ n))))) (cn (zB z (2 ^ n) G (2 ^ n))) n (nI 0) (nI n) (rowg G (2 ^ n)) := ht
  have px := zB_PX h (m := 2 ^ n) (i := 2 ^ n) (G := G)
  unfold fX9_task_J77
  simp (disch := omega) only [plainT_0 px.2.2.2.2.2, stQT_n hp (okT_n ht), dT_Q, dT_Nw, howMany_n ht' (show 2 ≤ 2 by omega), Option.bind_some, aI_n, aL_n, aQ_n, sA_n, sL_n, csA_n, i_0, i_1, i_2, i_3, i_4, i_5, i_6, i_7, i_8, i_9, i_10, i_11, i_12, i_13, i_16, i_20, i_21, i_22, i_31, i_99, i_100, i_256, i_1000, nI_eq, nI_leI, nI_ltI, nI_add, pk_mul, ↓reduceIte, nt_le, nf_le, nt_lt, nf_lt, nt_eq, nf_eq, meet_N', meet_P', meet_S', meet_Z', meet_B', meet_O', n_1, n_2, n_3, n_4, n_5, n_10, n_11]
theorem St_task_ok : St_task Sim := by
  intro o z r a1 a2 a3 h
  obtain ⟨h1, h2, h3⟩ := id h
  have bad : (fX9_task o z a1 a2 a3 = some (-2, z) ∧ fX10_task r a1 a2 a3 = some (-2, r)) ∨ ∃ p n, p < 8 ∧ 1 ≤ n ∧ n ≤ 8 ∧ a1 = nI p ∧ a2 = nI n ∧ ∃ s, s < 6 ∧ a3 = nI s := by
    unfold fX9_task fX9_task_J25 fX10_task fX10_task_J25
    rcases ix a1 (n := 8) (by omega) with hx | ⟨p, hp, rfl⟩
    · exact Or.inl ⟨by simp (disch := omega) only [isPl9_out hx, Option.bind_some, aI_n, aL_n, aQ_n, sA_n, sL_n, csA_n, i_0, i_1, i_2, i_3, i_4, i_5, i_6, i_7, i_8, i_9, i_10, i_11, i_12, i_13, i_16, i_20, i_21, i_22, i_31, i_99, i_100, i_256, i_1000, nI_eq, nI_leI, nI_ltI, nI_add, pk_mul, ↓reduceIte, nt_le, nf_le, nt_lt, nf_lt, nt_eq, nf_eq, meet_N', meet_P', meet_S', meet_Z', meet_B', meet_O', n_1, n_2, n_3, n_4, n_5, n_10, n_11], by simp (disch := omega) only [isPl10_out hx, Option.bind_some, aI_n, aL_n, aQ_n, sA_n, sL_n, csA_n, i_0, i_1, i_2, i_3, i_4, i_5, i_6, i_7, i_8, i_9, i_10, i_11, i_12, i_13, i_16, i_20, i_21, i_22, i_31, i_99, i_100, i_256, i_1000, nI_eq, nI_leI, nI_ltI, nI_add, pk_mul, ↓reduceIte, nt_le, nf_le, nt_lt, nf_lt, nt_eq, nf_eq, meet_N', meet_P', meet_S', meet_Z', meet_B', meet_O', n_1, n_2, n_3, n_4, n_5, n_10, n_11]⟩
    rcases ix a3 (n := 6) (by omega) with hx | ⟨s, hs, rfl⟩
    · exact Or.inl ⟨by simp (disch := omega) only [isPl9_in hp, isSh9_out hx, Option.bind_some, aI_n, aL_n, aQ_n, sA_n, sL_n, csA_n, i_0, i_1, i_2, i_3, i_4, i_5, i_6, i_7, i_8, i_9, i_10, i_11, i_12, i_13, i_16, i_20, i_21, i_22, i_31, i_99, i_100, i_256, i_1000, nI_eq, nI_leI, nI_ltI, nI_add, pk_mul, ↓reduceIte, nt_le, nf_le, nt_lt, nf_lt, nt_eq, nf_eq, meet_N', meet_P', meet_S', meet_Z', meet_B', meet_O', n_1, n_2, n_3, n_4, n_5, n_10, n_11], by simp (disch := omega) only [isPl10_in hp, isSh10_out hx, Option.bind_some, aI_n, aL_n, aQ_n, sA_n, sL_n, csA_n, i_0, i_1, i_2, i_3, i_4, i_5, i_6, i_7, i_8, i_9, i_10, i_11, i_12, i_13, i_16, i_20, i_21, i_22, i_31, i_99, i_100, i_256, i_1000, nI_eq, nI_leI, nI_ltI, nI_add, pk_mul, ↓reduceIte, nt_le, nf_le, nt_lt, nf_lt, nt_eq, nf_eq, meet_N', meet_P', meet_S', meet_Z', meet_B', meet_O', n_1, n_2, n_3, n_4, n_5, n_10, n_11]⟩
    rcases ix a2 (n := 9) (by omega) with hx | ⟨n, hn, rfl⟩
    · left
      by_cases h0 : a2 < nI 1
      · exact ⟨by simp (disch := omega) only [isPl9_in hp, isSh9_in hs, h0, Option.bind_some, aI_n, aL_n, aQ_n, sA_n, sL_n, csA_n, i_0, i_1, i_2, i_3, i_4, i_5, i_6, i_7, i_8, i_9, i_10, i_11, i_12, i_13, i_16, i_20, i_21, i_22, i_31, i_99, i_100, i_256, i_1000, nI_eq, nI_leI, nI_ltI, nI_add, pk_mul, ↓reduceIte, nt_le, nf_le, nt_lt, nf_lt, nt_eq, nf_eq, meet_N', meet_P', meet_S', meet_Z', meet_B', meet_O', n_1, n_2, n_3, n_4, n_5, n_10, n_11], by simp (disch := omega) only [isPl10_in hp, isSh10_in hs, h0, Option.bind_some, aI_n, aL_n, aQ_n, sA_n, sL_n, csA_n, i_0, i_1, i_2, i_3, i_4, i_5, i_6, i_7, i_8, i_9, i_10, i_11, i_12, i_13, i_16, i_20, i_21, i_22, i_31, i_99, i_100, i_256, i_1000, nI_eq, nI_leI, nI_ltI, nI_add, pk_mul, ↓reduceIte, nt_le, nf_le, nt_lt, nf_lt, nt_eq, nf_eq, meet_N', meet_P', meet_S', meet_Z', meet_B', meet_O', n_1, n_2, n_3, n_4, n_5, n_10, n_11]⟩
      · have c2 : ¬ a2 ≤ nI 8 := out4 (m := 8) (by omega) hx (fun q => h0 (Int32.lt_trans q (by decide)))
        exact ⟨by simp (disch := omega) only [isPl9_in hp, isSh9_in hs, h0, c2, Option.bind_some, aI_n, aL_n, aQ_n, sA_n, sL_n, csA_n, i_0, i_1, i_2, i_3, i_4, i_5, i_6, i_7, i_8, i_9, i_10, i_11, i_12, i_13, i_16, i_20, i_21, i_22, i_31, i_99, i_100, i_256, i_1000, nI_eq, nI_leI, nI_ltI, nI_add, pk_mul, ↓reduceIte, nt_le, nf_le, nt_lt, nf_lt, nt_eq, nf_eq, meet_N', meet_P', meet_S', meet_Z', meet_B', meet_O', n_1, n_2, n_3, n_4, n_5, n_10, n_11], by simp (disch := omega) only [isPl10_in hp, isSh10_in hs, h0, c2, Option.bind_some, aI_n, aL_n, aQ_n, sA_n, sL_n, csA_n, i_0, i_1, i_2, i_3, i_4, i_5, i_6, i_7, i_8, i_9, i_10, i_11, i_12, i_13, i_16, i_20, i_21, i_22, i_31, i_99, i_100, i_256, i_1000, nI_eq, nI_leI, nI_ltI, nI_add, pk_mul, ↓reduceIte, nt_le, nf_le, nt_lt, nf_lt, nt_eq, nf_eq, meet_N', meet_P', meet_S', meet_Z', meet_B', meet_O', n_1, n_2, n_3, n_4, n_5, n_10, n_11]⟩
    · by_cases h0 : n = 0
      · subst h0
        exact Or.inl ⟨by simp (disch := omega) only [isPl9_in hp, isSh9_in hs, Option.bind_some, aI_n, aL_n, aQ_n, sA_n, sL_n, csA_n, i_0, i_1, i_2, i_3, i_4, i_5, i_6, i_7, i_8, i_9, i_10, i_11, i_12, i_13, i_16, i_20, i_21, i_22, i_31, i_99, i_100, i_256, i_1000, nI_eq, nI_leI, nI_ltI, nI_add, pk_mul, ↓reduceIte, nt_le, nf_le, nt_lt, nf_lt, nt_eq, nf_eq, meet_N', meet_P', meet_S', meet_Z', meet_B', meet_O', n_1, n_2, n_3, n_4, n_5, n_10, n_11], by simp (disch := omega) only [isPl10_in hp, isSh10_in hs, Option.bind_some, aI_n, aL_n, aQ_n, sA_n, sL_n, csA_n, i_0, i_1, i_2, i_3, i_4, i_5, i_6, i_7, i_8, i_9, i_10, i_11, i_12, i_13, i_16, i_20, i_21, i_22, i_31, i_99, i_100, i_256, i_1000, nI_eq, nI_leI, nI_ltI, nI_add, pk_mul, ↓reduceIte, nt_le, nf_le, nt_lt, nf_lt, nt_eq, nf_eq, meet_N', meet_P', meet_S', meet_Z', meet_B', meet_O', n_1, n_2, n_3, n_4, n_5, n_10, n_11]⟩
      · exact Or.inr ⟨p, n, hp, by omega, by omega, rfl, rfl, s, hs, rfl⟩
  rcases bad with ⟨q1, q2⟩ | ⟨p, n, hp, n1, n8, rfl, rfl, s, hs, rfl⟩
  · exact ⟨_, _, q1, q2, rfl, h⟩
  have p2 := p2le n8
  have pp := p2pos (n := n)
  suffices hh : ∃ G : Nat → Nat, (∀ x, G x ≤ 2) ∧ (∀ i rr, i < 2 ^ n → rr.2.2 = r.2.2 → rr.2.1 5 = r.2.1 5 → rr.2.1 0 p = nI n → fX10_task_L45 rr (nI p) (nI s) (nI i) = some (.inl (nI (i + 1), rA rr 3 (256 * p + i) (nI (G i))))) ∧ fX9_task o z (nI p) (nI n) (nI s) = fX9_task_J77 o (zB z (2 ^ n) G (2 ^ n)) (nI p) (nI n) (cn z) by
    obtain ⟨G, hG, step, hc⟩ := hh
    obtain ⟨r', g1, g2, g3, g4, g5, g6⟩ := task_ref hp hs n1 n8 hG step
    rw [task_cls h1 hp n1 n8 (fun x _ => hG x)] at hc
    exact ⟨_, _, hc, g1, rfl, Sim_newtask h (zB_PX h1) hp (TkAt_z h1 n1 n8 (fun x _ => hG x)) g2 g3 (fun k hk _ _ => g4 k hk) g5 g6⟩
  have hs' : s < 8 := by omega
  rcases shc h2 (nI s) with hx | ⟨s', hs2, es, e, e'⟩ | ⟨s', q, k, m, b, f, hs2, es, e, sa, d1, d2, k3, m8, d3, d4, r4, r5, r6⟩
  · exfalso
    rcases hx with hx | hx
    · exact nI_nlt0 (by omega) hx
    · exact nI_ge hs (by omega) hx
  · have : s = s' := (nI_eq (by omega) (by omega)).mp es
    subst this
    refine ⟨fun _ => 0, fun _ => Nat.zero_le _, fun i rr hi e1 e2 e3 => ?_, ?_⟩
    · unfold fX10_task_L45
      simp (disch := omega) only [inputs_n (show p < 16 by omega) e3 n8, e2, e', J98_n (r := rr) (show p < 16 by omega) (show i < 256 by omega) (s := s), sgn_0, Option.bind_some, aI_n, aL_n, aQ_n, sA_n, sL_n, csA_n, i_0, i_1, i_2, i_3, i_4, i_5, i_6, i_7, i_8, i_9, i_10, i_11, i_12, i_13, i_16, i_20, i_21, i_22, i_31, i_99, i_100, i_256, i_1000, nI_eq, nI_leI, nI_ltI, nI_add, pk_mul, ↓reduceIte, nt_le, nf_le, nt_lt, nf_lt, nt_eq, nf_eq, meet_N', meet_P', meet_S', meet_Z', meet_B', meet_O', n_1, n_2, n_3, n_4, n_5, n_10, n_11]
      rw [if_neg (by decide)]
    · unfold fX9_task
      simp (disch := omega) only [isPl9_in hp, isSh9_in hs, shl1' n (by omega), alB_n h1 p2 (fun _ => 0), Option.bind_some, aI_n, aL_n, aQ_n, sA_n, sL_n, csA_n, i_0, i_1, i_2, i_3, i_4, i_5, i_6, i_7, i_8, i_9, i_10, i_11, i_12, i_13, i_16, i_20, i_21, i_22, i_31, i_99, i_100, i_256, i_1000, nI_eq, nI_leI, nI_ltI, nI_add, pk_mul, ↓reduceIte, nt_le, nf_le, nt_lt, nf_lt, nt_eq, nf_eq, meet_N', meet_P', meet_S', meet_Z', meet_B', meet_O', n_1, n_2, n_3, n_4, n_5, n_10, n_11]
      rw [show (zB z (2 ^ n) (fun _ => 0) 0).2.2.1 0 s = none from e, zB_0 (fun _ => rfl) 0 (2 ^ n)]
      rfl
  · have : s = s' := (nI_eq (by omega) (by omega)).mp es
    subst this
    refine ⟨said m f, said_le m f, fun i rr hi e1 e2 e3 => ?_, ?_⟩
    · unfold fX10_task_L45 said
      by_cases c : m ≤ i
      · rw [if_pos c]
        simp (disch := omega) only [inputs_n (show p < 16 by omega) e3 n8, e2, r5, J98_n (r := rr) (show p < 16 by omega) (show i < 256 by omega) (s := s), sgn_m, Option.bind_some, aI_n, aL_n, aQ_n, sA_n, sL_n, csA_n, i_0, i_1, i_2, i_3, i_4, i_5, i_6, i_7, i_8, i_9, i_10, i_11, i_12, i_13, i_16, i_20, i_21, i_22, i_31, i_99, i_100, i_256, i_1000, nI_eq, nI_leI, nI_ltI, nI_add, pk_mul, ↓reduceIte, nt_le, nf_le, nt_lt, nf_lt, nt_eq, nf_eq, meet_N', meet_P', meet_S', meet_Z', meet_B', meet_O', n_1, n_2, n_3, n_4, n_5, n_10, n_11]
      · rw [if_neg c]
        simp (disch := omega) only [inputs_n (show p < 16 by omega) e3 n8, e1, e2, r5, r6 i (by omega), J98_n (r := rr) (show p < 16 by omega) (show i < 256 by omega) (s := s), Option.bind_some, aI_n, aL_n, aQ_n, sA_n, sL_n, csA_n, i_0, i_1, i_2, i_3, i_4, i_5, i_6, i_7, i_8, i_9, i_10, i_11, i_12, i_13, i_16, i_20, i_21, i_22, i_31, i_99, i_100, i_256, i_1000, nI_eq, nI_leI, nI_ltI, nI_add, pk_mul, ↓reduceIte, nt_le, nf_le, nt_lt, nf_lt, nt_eq, nf_eq, meet_N', meet_P', meet_S', meet_Z', meet_B', meet_O', n_1, n_2, n_3, n_4, n_5, n_10, n_11]
    · unfold fX9_task
      have px : ∀ i, PX o z (zB z (2 ^ n) (said m f) i) := fun i => zB_PX h1
      simp (disch := omega) only [isPl9_in hp, isSh9_in hs, shl1' n (by omega), alB_n h1 p2 (said m f), Option.bind_some, aI_n, aL_n, aQ_n, sA_n, sL_n, csA_n, i_0, i_1, i_2, i_3, i_4, i_5, i_6, i_7, i_8, i_9, i_10, i_11, i_12, i_13, i_16, i_20, i_21, i_22, i_31, i_99, i_100, i_256, i_1000, nI_eq, nI_leI, nI_ltI, nI_add, pk_mul, ↓reduceIte, nt_le, nf_le, nt_lt, nf_lt, nt_eq, nf_eq, meet_N', meet_P', meet_S', meet_Z', meet_B', meet_O', n_1, n_2, n_3, n_4, n_5, n_10, n_11]
      rw [show (zB z (2 ^ n) (said m f) 0).2.2.1 0 s = some q from e]
      refine (congrArg (fun u => u.bind fun e13 => fX9_task_J77 o e13 (nI p) (nI n) (cn z)) (fillB (G := said m f) (z := z) (m := 2 ^ n) (body := fun u => fX9_task_L51 o u.2 (nI p) (nI n) (cn z) q u.1) (by omega) (fun i hi => ?_) ?_)).trans rfl
      · unfold fX9_task_L51
        have x1 := (px i).2.2.2.2.1.S d1
        have x2 := (px i).2.2.2.2.1.L d2
        simp (disch := omega) only [lnB_z, saidBy_n (o := o) (show i < 256 by omega) m8 x1 (by unfold lnL; rw [x2]; rfl) (fun j hj => by unfold rdL; rw [x2, Option.bind_some, aL_n _ hj (by omega)]), stB_n h1 hi p2 (b8 _ (said_le m f i)), Option.bind_some, aI_n, aL_n, aQ_n, sA_n, sL_n, csA_n, i_0, i_1, i_2, i_3, i_4, i_5, i_6, i_7, i_8, i_9, i_10, i_11, i_12, i_13, i_16, i_20, i_21, i_22, i_31, i_99, i_100, i_256, i_1000, nI_eq, nI_leI, nI_ltI, nI_add, pk_mul, ↓reduceIte, nt_le, nf_le, nt_lt, nf_lt, nt_eq, nf_eq, meet_N', meet_P', meet_S', meet_Z', meet_B', meet_O', n_1, n_2, n_3, n_4, n_5, n_10, n_11]
      · unfold fX9_task_L51
        simp (disch := omega) only [lnB_z, Option.bind_some, aI_n, aL_n, aQ_n, sA_n, sL_n, csA_n, i_0, i_1, i_2, i_3, i_4, i_5, i_6, i_7, i_8, i_9, i_10, i_11, i_12, i_13, i_16, i_20, i_21, i_22, i_31, i_99, i_100, i_256, i_1000, nI_eq, nI_leI, nI_ltI, nI_add, pk_mul, ↓reduceIte, nt_le, nf_le, nt_lt, nf_lt, nt_eq, nf_eq, meet_N', meet_P', meet_S', meet_Z', meet_B', meet_O', n_1, n_2, n_3, n_4, n_5, n_10, n_11]
