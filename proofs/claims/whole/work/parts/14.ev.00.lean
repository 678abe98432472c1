/-! literals -/
theorem i_0 : (0 : Int32) = nI 0 := by decide
theorem i_1 : (1 : Int32) = nI 1 := by decide
theorem i_2 : (2 : Int32) = nI 2 := by decide
theorem i_3 : (3 : Int32) = nI 3 := by decide
theorem i_4 : (4 : Int32) = nI 4 := by decide
theorem i_5 : (5 : Int32) = nI 5 := by decide
theorem i_6 : (6 : Int32) = nI 6 := by decide
theorem i_7 : (7 : Int32) = nI 7 := by decide
theorem i_8 : (8 : Int32) = nI 8 := by decide
theorem i_9 : (9 : Int32) = nI 9 := by decide
theorem i_10 : (10 : Int32) = nI 10 := by decide
theorem i_11 : (11 : Int32) = nI 11 := by decide
theorem i_12 : (12 : Int32) = nI 12 := by decide
theorem i_16 : (16 : Int32) = nI 16 := by decide
theorem i_20 : (20 : Int32) = nI 20 := by decide
theorem i_21 : (21 : Int32) = nI 21 := by decide
theorem i_22 : (22 : Int32) = nI 22 := by decide
theorem i_31 : (31 : Int32) = nI 31 := by decide
theorem i_99 : (99 : Int32) = nI 99 := by decide
theorem i_100 : (100 : Int32) = nI 100 := by decide
theorem i_256 : (256 : Int32) = nI 256 := by decide
theorem i_1000 : (1000 : Int32) = nI 1000 := by decide
theorem nt_le {a b : Nat} (h : a ≤ b) : (a ≤ b) = True := eq_true h
theorem nf_le {a b : Nat} (h : b < a) : (a ≤ b) = False := eq_false (Nat.not_le.mpr h)
theorem nt_lt {a b : Nat} (h : a < b) : (a < b) = True := eq_true h
theorem nf_lt {a b : Nat} (h : b ≤ a) : (a < b) = False := eq_false (Nat.not_lt.mpr h)
theorem nt_eq {a b : Nat} (h : a = b) : (a = b) = True := eq_true h
theorem nf_eq {a b : Nat} (h : a ≠ b) : (a = b) = False := eq_false h
theorem meet_N' {r : RS} : fX10_meet r (-nI 10) = some (-nI 10, rI r 2 (r.1 2 + nI 1)) := meet_N
theorem meet_P' {r : RS} : fX10_meet r (-nI 11) = some (-nI 11, rI r 2 (r.1 2 + nI 1)) := meet_P
theorem meet_S' {r : RS} : fX10_meet r (-nI 12) = some (-nI 12, rI r 2 (r.1 2 + nI 1)) := meet_S
theorem meet_Z' {r : RS} : fX10_meet r (-nI 13) = some (-nI 13, rI r 2 (r.1 2 + nI 1)) := meet_Z
theorem meet_B' {r : RS} : fX10_meet r (-nI 2) = some (-nI 2, r) := meet_B
theorem meet_O' {r : RS} : fX10_meet r (-nI 4) = some (-nI 4, r) := meet_O
theorem n_1 : (-nI 1 = nI 0) = False := by decide
theorem n_2 : (-nI 2 = nI 0) = False := by decide
theorem n_3 : (-nI 3 = nI 0) = False := by decide
theorem n_4 : (-nI 4 = nI 0) = False := by decide
theorem n_5 : (-nI 5 = nI 0) = False := by decide
theorem n_10 : (-nI 10 = nI 0) = False := by decide
theorem n_11 : (-nI 11 = nI 0) = False := by decide
theorem i_13 : (13 : Int32) = nI 13 := by decide
/-- a place on both sides: none, empty, or with a task -/
theorem plc {z : CS} {r : RS} (h3 : PlR z r 1 0) (a : Int32) : (a < 0 ∨ nI 8 ≤ a) ∨ (∃ k, k < 8 ∧ a = nI k ∧ z.2.2.1 1 k = none ∧ r.2.1 0 k = nI 0) ∨
    ∃ (k q n : Nat) (kd wt : Int32) (g : Nat → Nat) (b : Nat), k < 8 ∧ a = nI k ∧ z.2.2.1 1 k = some q ∧ TkAt z q n kd wt g ∧ TkR r k n kd wt g ∧ 1 ≤ n ∧ n ≤ 8 ∧ (∀ x, g x ≤ 2) ∧ dT z q = some (kd, nI n, wt, some b) ∧ lnB z b = some (nI (2 ^ n)) ∧ (∀ x, x < 2 ^ n → rdB z b (nI x) = some (nI (g x))) ∧ 2 ^ n ≤ 256 ∧ 1 ≤ 2 ^ n := by
  rcases ix a (n := 8) (by omega) with hx | ⟨k, hk, rfl⟩
  · exact Or.inl hx
  · cases e : z.2.2.1 1 k with
    | none => exact Or.inr (Or.inl ⟨k, hk, rfl, e, PlR_no h3 hk e⟩)
    | some q =>
      obtain ⟨n, kd, wt, g, t1, t2⟩ := PlR_yes h3 hk e
      obtain ⟨n1, n8, hg⟩ := Tk_n t1
      obtain ⟨b, d1, d2, d3⟩ := Tk_rd t1
      exact Or.inr (Or.inr ⟨k, q, n, kd, wt, g, b, hk, rfl, e, t1, t2, n1, n8, hg, d1, d2, d3, p2le n8, p2pos⟩)
theorem same_lp {o : Nat} {z : CS} {r : RS} {k k' n b b' : Nat} {kd wt kd' wt' : Int32} {g g' : Nat → Nat} (hk : k < 16) (hk' : k' < 16) (t2 : TkR r k n kd wt g) (t2' : TkR r k' n kd' wt' g') (n8 : n ≤ 8) (d2 : lnB z b = some (nI (2 ^ n))) (d3 : ∀ x, x < 2 ^ n → rdB z b (nI x) = some (nI (g x))) (d3' : ∀ x, x < 2 ^ n → rdB z b' (nI x) = some (nI (g' x))) :
    ∃ e1 e2, lpN (fun u => fX9_same_L75 o z b b' u.1 u.2) bigN ((1 : Int32), (0 : Int32)) = some e1 ∧ lpN (fun u => fX10_same_L66 r (nI k) (nI k') u.1 u.2) bigN ((1 : Int32), (0 : Int32)) = some e2 ∧ e1 = e2 := by
  have p2 := p2le n8
  refine lp_pair (fun s1 s2 => ∃ i l, i ≤ 2 ^ n ∧ l ≤ 1 ∧ s1 = (nI l, nI i) ∧ s2 = (nI l, nI i)) (fun s => 1000 - s.2.toNatClampNeg) _ (fun s1 s2 hs => ?_) bigN _ _ ⟨0, 1, Nat.zero_le _, by omega, rfl, rfl⟩ (by show 1000 - _ < 1000000000; omega)
  obtain ⟨i, l, hi, hl, rfl, rfl⟩ := hs
  unfold fX9_same_L75 fX10_same_L66 fX9_same_L75_J106 fX10_same_L66_J102
  by_cases h0 : l = 0
  · right
    subst h0
    refine ⟨nI 0, nI 0, ?_, ?_, rfl⟩
    · simp (disch := omega) only [d2, Option.bind_some, aI_n, aL_n, aQ_n, sA_n, sL_n, csA_n, i_0, i_1, i_2, i_3, i_4, i_5, i_6, i_7, i_8, i_9, i_10, i_11, i_12, i_13, i_16, i_20, i_21, i_22, i_31, i_99, i_100, i_256, i_1000, nI_eq, nI_leI, nI_ltI, nI_add, pk_mul, ↓reduceIte, nt_le, nf_le, nt_lt, nf_lt, nt_eq, nf_eq, meet_N', meet_P', meet_S', meet_Z', meet_B', meet_O', n_1, n_2, n_3, n_4, n_5, n_10, n_11]
    · by_cases hi2 : 2 ^ n ≤ i
      · simp (disch := omega) only [inputs_n hk t2.1 n8, Option.bind_some, aI_n, aL_n, aQ_n, sA_n, sL_n, csA_n, i_0, i_1, i_2, i_3, i_4, i_5, i_6, i_7, i_8, i_9, i_10, i_11, i_12, i_13, i_16, i_20, i_21, i_22, i_31, i_99, i_100, i_256, i_1000, nI_eq, nI_leI, nI_ltI, nI_add, pk_mul, ↓reduceIte, nt_le, nf_le, nt_lt, nf_lt, nt_eq, nf_eq, meet_N', meet_P', meet_S', meet_Z', meet_B', meet_O', n_1, n_2, n_3, n_4, n_5, n_10, n_11]
      · simp (disch := omega) only [inputs_n hk t2.1 n8, Option.bind_some, aI_n, aL_n, aQ_n, sA_n, sL_n, csA_n, i_0, i_1, i_2, i_3, i_4, i_5, i_6, i_7, i_8, i_9, i_10, i_11, i_12, i_13, i_16, i_20, i_21, i_22, i_31, i_99, i_100, i_256, i_1000, nI_eq, nI_leI, nI_ltI, nI_add, pk_mul, ↓reduceIte, nt_le, nf_le, nt_lt, nf_lt, nt_eq, nf_eq, meet_N', meet_P', meet_S', meet_Z', meet_B', meet_O', n_1, n_2, n_3, n_4, n_5, n_10, n_11]
  · by_cases hi2 : 2 ^ n ≤ i
    · right
      refine ⟨nI l, nI l, ?_, ?_, rfl⟩
      · simp (disch := omega) only [d2, Option.bind_some, aI_n, aL_n, aQ_n, sA_n, sL_n, csA_n, i_0, i_1, i_2, i_3, i_4, i_5, i_6, i_7, i_8, i_9, i_10, i_11, i_12, i_13, i_16, i_20, i_21, i_22, i_31, i_99, i_100, i_256, i_1000, nI_eq, nI_leI, nI_ltI, nI_add, pk_mul, ↓reduceIte, nt_le, nf_le, nt_lt, nf_lt, nt_eq, nf_eq, meet_N', meet_P', meet_S', meet_Z', meet_B', meet_O', n_1, n_2, n_3, n_4, n_5, n_10, n_11]
      · simp (disch := omega) only [inputs_n hk t2.1 n8, Option.bind_some, aI_n, aL_n, aQ_n, sA_n, sL_n, csA_n, i_0, i_1, i_2, i_3, i_4, i_5, i_6, i_7, i_8, i_9, i_10, i_11, i_12, i_13, i_16, i_20, i_21, i_22, i_31, i_99, i_100, i_256, i_1000, nI_eq, nI_leI, nI_ltI, nI_add, pk_mul, ↓reduceIte, nt_le, nf_le, nt_lt, nf_lt, nt_eq, nf_eq, meet_N', meet_P', meet_S', meet_Z', meet_B', meet_O', n_1, n_2, n_3, n_4, n_5, n_10, n_11]
    · left
      have hi3 : i < 2 ^ n := by omega
      refine ⟨(if nI (g i) = nI (g' i) then 1 else 0, nI (i + 1)), (if nI (g i) = nI (g' i) then 1 else 0, nI (i + 1)), ?_, ?_, ⟨i + 1, if nI (g i) = nI (g' i) then 1 else 0, by omega, by split <;> omega, by split <;> rfl, by split <;> rfl⟩, ?_⟩
      · simp (disch := omega) only [d2, d3 i hi3, d3' i hi3, Option.bind_some, aI_n, aL_n, aQ_n, sA_n, sL_n, csA_n, i_0, i_1, i_2, i_3, i_4, i_5, i_6, i_7, i_8, i_9, i_10, i_11, i_12, i_13, i_16, i_20, i_21, i_22, i_31, i_99, i_100, i_256, i_1000, nI_eq, nI_leI, nI_ltI, nI_add, pk_mul, ↓reduceIte, nt_le, nf_le, nt_lt, nf_lt, nt_eq, nf_eq, meet_N', meet_P', meet_S', meet_Z', meet_B', meet_O', n_1, n_2, n_3, n_4, n_5, n_10, n_11]
        split <;> rfl
      · simp (disch := omega) only [inputs_n hk t2.1 n8, say0_n hk t2 n8 hi3, say0_n hk' t2' n8 hi3, Option.bind_some, aI_n, aL_n, aQ_n, sA_n, sL_n, csA_n, i_0, i_1, i_2, i_3, i_4, i_5, i_6, i_7, i_8, i_9, i_10, i_11, i_12, i_13, i_16, i_20, i_21, i_22, i_31, i_99, i_100, i_256, i_1000, nI_eq, nI_leI, nI_ltI, nI_add, pk_mul, ↓reduceIte, nt_le, nf_le, nt_lt, nf_lt, nt_eq, nf_eq, meet_N', meet_P', meet_S', meet_Z', meet_B', meet_O', n_1, n_2, n_3, n_4, n_5, n_10, n_11]
        split <;> rfl
      · show 1000 - (nI (i + 1)).toNatClampNeg < 1000 - (nI i).toNatClampNeg
        rw [nI_clamp (by omega), nI_clamp (by omega)]
        omega
