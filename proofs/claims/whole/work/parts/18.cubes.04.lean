/-- the class's cubes, weighed below m -/
def WgR_29 (z0 z : CS) (n : Nat) (g : Nat → Nat) (bs : Bool) (m : Nat) : Prop := z.1 = z0.1 ∧ z.2.2 = z0.2.2 ∧ (∀ k, k ≠ 17 → k ≠ 18 → z.2.1 k = z0.2.1 k) ∧ ∀ d, d < m → z.2.1 17 d = nI (hasT n g d) ∧ z.2.1 18 d = nI (wT n g bs d)
theorem WgR_29.up {z0 z : CS} {n c k : Nat} {g : Nat → Nat} {bs : Bool} {x : Int32} (h : WgR_29 z0 z n g bs c) (hk : k = 17 ∨ k = 18) : WgR_29 z0 (cAr z k c x) n g bs c := by
  refine ⟨h.1, h.2.1, fun j h1 h2 => by rw [cAr_n (by omega)]; exact h.2.2.1 j h1 h2, fun d hd => ?_⟩
  have key : ∀ j, (cAr z k c x).2.1 j d = z.2.1 j d := fun j => by
    by_cases e : j = k
    · rw [e, cAr_e, pk_un (by omega)]
    · rw [cAr_n e]
  rw [key, key]
  exact h.2.2.2 d hd
theorem halves_29 {o : Nat} {z0 z : CS} {n c i : Nat} {g : Nat → Nat} {bs : Bool} (hB : z0.1 15 = bsI bs) (h : WgR_29 z0 z n g bs c) (hn : n ≤ 8) (hc : c < 6561) (hi : i < n) (h2 : dg c i = 2) : fX1_weightOfHalves_29 o z (nI c) (nI (3 ^ i)) = some (nI (hw n g bs c i)) := by
  have hge := dg_ge h2
  have h3 := p3 i
  have h4 := p3le (show i ≤ 8 by omega)
  have a1 := h.2.2.2 (c - 3 ^ i) (by omega)
  have a2 := h.2.2.2 (c - 2 * 3 ^ i) (by omega)
  have b1 := wT_b hn g bs (c - 3 ^ i)
  have b2 := wT_b hn g bs (c - 2 * 3 ^ i)
  have hB' : z.1 15 = bsI bs := by rw [h.1]; exact hB
  unfold fX1_weightOfHalves_29
  cases bs with
  | false =>
    have hB2 : z.1 15 = nI 0 := hB'
    have e : hw n g false c i = max (wT n g false (c - 2 * 3 ^ i)) (wT n g false (c - 3 ^ i)) := rfl
    by_cases q : wT n g false (c - 2 * 3 ^ i) < wT n g false (c - 3 ^ i)
    · rw [e, Nat.max_eq_right (by omega)]
      simp (disch := omega) only [pk_sub, a1.2, a2.2, hB2, Option.bind_some, aI_n, aL_n, aQ_n, sA_n, sL_n, csA_n, i_0, i_1, i_2, i_3, i_4, i_5, i_6, i_7, i_8, i_9, i_10, i_11, i_12, i_13, i_16, i_20, i_21, i_22, i_31, i_99, i_100, i_256, i_1000, nI_eq, nI_leI, nI_ltI, nI_add, pk_mul, ↓reduceIte, nt_le, nf_le, nt_lt, nf_lt, nt_eq, nf_eq, meet_N', meet_P', meet_S', meet_Z', meet_B', meet_O', n_1, n_2, n_3, n_4, n_5, n_10, n_11]
    · rw [e, Nat.max_eq_left (by omega)]
      simp (disch := omega) only [pk_sub, a1.2, a2.2, hB2, Option.bind_some, aI_n, aL_n, aQ_n, sA_n, sL_n, csA_n, i_0, i_1, i_2, i_3, i_4, i_5, i_6, i_7, i_8, i_9, i_10, i_11, i_12, i_13, i_16, i_20, i_21, i_22, i_31, i_99, i_100, i_256, i_1000, nI_eq, nI_leI, nI_ltI, nI_add, pk_mul, ↓reduceIte, nt_le, nf_le, nt_lt, nf_lt, nt_eq, nf_eq, meet_N', meet_P', meet_S', meet_Z', meet_B', meet_O', n_1, n_2, n_3, n_4, n_5, n_10, n_11]
  | true =>
    have hB2 : z.1 15 = nI 1 := hB'
    simp (disch := omega) only [pk_sub, a1.2, a2.2, hB2, Option.bind_some, aI_n, aL_n, aQ_n, sA_n, sL_n, csA_n, i_0, i_1, i_2, i_3, i_4, i_5, i_6, i_7, i_8, i_9, i_10, i_11, i_12, i_13, i_16, i_20, i_21, i_22, i_31, i_99, i_100, i_256, i_1000, nI_eq, nI_leI, nI_ltI, nI_add, pk_mul, ↓reduceIte, nt_le, nf_le, nt_lt, nf_lt, nt_eq, nf_eq, meet_N', meet_P', meet_S', meet_Z', meet_B', meet_O', n_1, n_2, n_3, n_4, n_5, n_10, n_11]
    rfl
theorem one17_29 {o : Nat} {z0 z : CS} {q n c : Nat} {g : Nat → Nat} {bs : Bool} {kd wt : Int32} {b : Nat} (hB : z0.1 15 = bsI bs) (hJ : z0.2.2.2.1 1 = some q) (d1 : dT z0 q = some (kd, nI n, wt, some b)) (h : WgR_29 z0 z n g bs c) (hn : n ≤ 8) (hc : c < 6561) : ∃ e, lpN (fun u => fX1_weighOne_29_L17 o u.2.2.2.2.2.2 (nI c) u.1 u.2.1 u.2.2.1 u.2.2.2.1 u.2.2.2.2.1 u.2.2.2.2.2.1) bigN (nI c, nI 1, nI 0, nI 0, nI 1000000, nI 0, z) = some e ∧ ∃ y, e = (nI (nfree n c), nI (inpR n c), nI (bestF n (hw n g bs c) c), y) ∧ WgR_29 z0 y n g bs c ∧ ∀ j, top n c = some j → y.2.1 17 c = nI (hasT n g (c - 3 ^ j) ||| hasT n g (c - 2 * 3 ^ j)) := by
  refine lp_count (fun i s => ∃ y, s = (nI (c / 3 ^ i), nI (3 ^ i), nI (nfree i c), nI (inpR i c), nI (bestF i (hw n g bs c) c), nI i, y) ∧ WgR_29 z0 y n g bs c ∧ ∀ j, top i c = some j → y.2.1 17 c = nI (hasT n g (c - 3 ^ j) ||| hasT n g (c - 2 * 3 ^ j))) n _ (bigN_gt (by omega)) (fun i s hi hs => ?_) (fun s hs => ?_) ⟨z, ?_, h, fun j hj => by cases hj⟩
  · obtain ⟨y, rfl, hy, ht⟩ := hs
    have yJ : y.2.2.2.1 1 = some q := by rw [hy.2.1]; exact hJ
    have yd : dT y q = some (kd, nI n, wt, some b) := by
      have : dT y q = dT z0 q := by unfold dT cpl; rw [hy.2.1]
      rw [this]; exact d1
    have e3 : c / 3 ^ i < 2 ^ 31 := by
      have : c / 3 ^ i ≤ c := Nat.div_le_self _ _
      omega
    have h3 := p3 i
    have h4 := p3le (show i ≤ 8 by omega)
    have hdl := dg_lt c i
    have rr : nI (c / 3 ^ i) - nI (c / 3 ^ i) / (3 : Int32) * (3 : Int32) = nI (dg c i) := rem3 e3
    have q1 := bestF_m i c (hw n g bs c)
    by_cases h2 : dg c i = 2
    · have hge := dg_ge h2
      have a1 := (hy.2.2.2 (c - 3 ^ i) (by omega)).1
      have a2 := (hy.2.2.2 (c - 2 * 3 ^ i) (by omega)).1
      have hl := or_le3 (hasT_le n g (c - 3 ^ i)) (hasT_le n g (c - 2 * 3 ^ i))
      have hy' := hy.up (k := 17) (x := nI (hasT n g (c - 3 ^ i) ||| hasT n g (c - 2 * 3 ^ i))) (by omega)
      have b1 := wT_b hn g bs (c - 3 ^ i)
      have b2 := wT_b hn g bs (c - 2 * 3 ^ i)
      have hwl : hw n g bs c i ≤ 4096 := by unfold hw comb; cases bs <;> simp <;> omega
      have hh := halves_29 (o := o) hB hy' hn hc hi h2
      have f1 : bestF (i + 1) (hw n g bs c) c = min (bestF i (hw n g bs c) c) (hw n g bs c i) := bestF_2 h2
      have f2 : nfree (i + 1) c = nfree i c + 1 := nfree_2 h2
      have f3 : inpR (i + 1) c = inpR i c := inpR_n (by omega)
      refine ⟨_, ?_, cAr y 17 c (nI (hasT n g (c - 3 ^ i) ||| hasT n g (c - 2 * 3 ^ i))), rfl, hy', fun j hj => ?_⟩
      · unfold fX1_weighOne_29_L17 fX1_weighOne_29_L17_J95
        simp only [rr]
        rw [f1, f2, f3, Nat.pow_succ]
        by_cases c1 : hw n g bs c i < bestF i (hw n g bs c) c
        · rw [Nat.min_eq_right (by omega)]
          simp (disch := omega) only [yJ, yd, h2, pk_sub, a1, a2, nI_or, b8h _ hl, hh, div3 hc, Option.bind_some, aI_n, aL_n, aQ_n, sA_n, sL_n, csA_n, i_0, i_1, i_2, i_3, i_4, i_5, i_6, i_7, i_8, i_9, i_10, i_11, i_12, i_13, i_16, i_20, i_21, i_22, i_31, i_99, i_100, i_256, i_1000, nI_eq, nI_leI, nI_ltI, nI_add, pk_mul, ↓reduceIte, nt_le, nf_le, nt_lt, nf_lt, nt_eq, nf_eq, meet_N', meet_P', meet_S', meet_Z', meet_B', meet_O', n_1, n_2, n_3, n_4, n_5, n_10, n_11]
          rw [Nat.pow_succ]
        · rw [Nat.min_eq_left (by omega)]
          simp (disch := omega) only [yJ, yd, h2, pk_sub, a1, a2, nI_or, b8h _ hl, hh, div3 hc, Option.bind_some, aI_n, aL_n, aQ_n, sA_n, sL_n, csA_n, i_0, i_1, i_2, i_3, i_4, i_5, i_6, i_7, i_8, i_9, i_10, i_11, i_12, i_13, i_16, i_20, i_21, i_22, i_31, i_99, i_100, i_256, i_1000, nI_eq, nI_leI, nI_ltI, nI_add, pk_mul, ↓reduceIte, nt_le, nf_le, nt_lt, nf_lt, nt_eq, nf_eq, meet_N', meet_P', meet_S', meet_Z', meet_B', meet_O', n_1, n_2, n_3, n_4, n_5, n_10, n_11]
          rw [Nat.pow_succ]
      · rw [top_2 h2] at hj
        obtain rfl := Option.some.inj hj
        rw [cAr_e, pk_us]
    · have f1 : bestF (i + 1) (hw n g bs c) c = bestF i (hw n g bs c) c := bestF_n h2
      have f2 : nfree (i + 1) c = nfree i c := nfree_n h2
      have f4 : top (i + 1) c = top i c := top_n h2
      have hil := inpR_lt i c
      refine ⟨_, ?_, y, rfl, hy, fun j hj => ht j (by rw [← f4]; exact hj)⟩
      unfold fX1_weighOne_29_L17 fX1_weighOne_29_L17_J95
      rcases (show dg c i = 0 ∨ dg c i = 1 by omega) with e | e
      · have f3 : inpR (i + 1) c = inpR i c := inpR_n (by omega)
        simp only [rr]
        rw [f1, f2, f3, Nat.pow_succ]
        simp (disch := omega) only [yJ, yd, e, shl0 i (by omega), nI_or, Nat.or_zero, div3 hc, Option.bind_some, aI_n, aL_n, aQ_n, sA_n, sL_n, csA_n, i_0, i_1, i_2, i_3, i_4, i_5, i_6, i_7, i_8, i_9, i_10, i_11, i_12, i_13, i_16, i_20, i_21, i_22, i_31, i_99, i_100, i_256, i_1000, nI_eq, nI_leI, nI_ltI, nI_add, pk_mul, ↓reduceIte, nt_le, nf_le, nt_lt, nf_lt, nt_eq, nf_eq, meet_N', meet_P', meet_S', meet_Z', meet_B', meet_O', n_1, n_2, n_3, n_4, n_5, n_10, n_11]
        rw [Nat.pow_succ]
      · have f3 : inpR (i + 1) c = inpR i c + 2 ^ i := inpR_1 e
        simp only [rr]
        rw [f1, f2, f3, Nat.pow_succ]
        simp (disch := omega) only [yJ, yd, e, shl1' i (by omega), nI_or, or_pow hil, div3 hc, Option.bind_some, aI_n, aL_n, aQ_n, sA_n, sL_n, csA_n, i_0, i_1, i_2, i_3, i_4, i_5, i_6, i_7, i_8, i_9, i_10, i_11, i_12, i_13, i_16, i_20, i_21, i_22, i_31, i_99, i_100, i_256, i_1000, nI_eq, nI_leI, nI_ltI, nI_add, pk_mul, ↓reduceIte, nt_le, nf_le, nt_lt, nf_lt, nt_eq, nf_eq, meet_N', meet_P', meet_S', meet_Z', meet_B', meet_O', n_1, n_2, n_3, n_4, n_5, n_10, n_11]
        rw [Nat.pow_succ]
  · obtain ⟨y, rfl, hy, ht⟩ := hs
    have yJ : y.2.2.2.1 1 = some q := by rw [hy.2.1]; exact hJ
    have yd : dT y q = some (kd, nI n, wt, some b) := by
      have : dT y q = dT z0 q := by unfold dT cpl; rw [hy.2.1]
      rw [this]; exact d1
    refine ⟨_, ?_, y, rfl, hy, ht⟩
    unfold fX1_weighOne_29_L17
    simp (disch := omega) only [yJ, yd, Option.bind_some, aI_n, aL_n, aQ_n, sA_n, sL_n, csA_n, i_0, i_1, i_2, i_3, i_4, i_5, i_6, i_7, i_8, i_9, i_10, i_11, i_12, i_13, i_16, i_20, i_21, i_22, i_31, i_99, i_100, i_256, i_1000, nI_eq, nI_leI, nI_ltI, nI_add, pk_mul, ↓reduceIte, nt_le, nf_le, nt_lt, nf_lt, nt_eq, nf_eq, meet_N', meet_P', meet_S', meet_Z', meet_B', meet_O', n_1, n_2, n_3, n_4, n_5, n_10, n_11]
  · rw [Nat.pow_zero, Nat.div_one]
    rfl
theorem one_29 {o : Nat} {z0 z : CS} {q n c : Nat} {g : Nat → Nat} {bs : Bool} {kd wt : Int32} {b : Nat} {f : Nat → Int32} (hB : z0.1 15 = bsI bs) (hJ : z0.2.2.2.1 1 = some q) (d1 : dT z0 q = some (kd, nI n, wt, some b)) (u2 : dB z0 b = some (2 ^ n, f)) (u3 : ∀ x, f x = nI (g x)) (hg : ∀ x, g x ≤ 2) (h : WgR_29 z0 z n g bs c) (hn : n ≤ 8) (hc : c < 6561) : ∃ e, fX1_weighOne_29 o z (nI c) = some e ∧ WgR_29 z0 e n g bs (c + 1) := by
  obtain ⟨e, e1, y, rfl, hy, ht⟩ := one17_29 (o := o) hB hJ d1 h hn hc
  have yJ : y.2.2.2.1 1 = some q := by rw [hy.2.1]; exact hJ
  have yB : y.1 15 = bsI bs := by rw [hy.1]; exact hB
  have yd : dT y q = some (kd, nI n, wt, some b) := by
    have : dT y q = dT z0 q := by unfold dT cpl; rw [hy.2.1]
    rw [this]; exact d1
  have yb : dB y b = some (2 ^ n, f) := by
    have : dB y b = dB z0 b := by unfold dB cpl; rw [hy.2.1]
    rw [this]; exact u2
  have rd := (rd_f yb u3 hn).2
  have nl := nfree_le n c
  have l3 := hasT_le n g c
  have bm := bestF_m n c (hw n g bs c)
  have fin : ∀ y, WgR_29 z0 y n g bs c → y.2.1 17 c = nI (hasT n g c) → ∃ e, fX1_weighOne_29_J153 o y (nI c) (nI (nfree n c)) (nI (bestF n (hw n g bs c) c)) = some e ∧ WgR_29 z0 e n g bs (c + 1) := by
    intro y hy hH
    have yB : y.1 15 = bsI bs := by rw [hy.1]; exact hB
    have wq := wT_eq n g bs c
    have done : ∀ v, v = wT n g bs c → WgR_29 z0 (cAr y 18 c (nI v)) n g bs (c + 1) := by
      intro v hv
      have w := hy.up (k := 18) (x := nI v) (by omega)
      refine ⟨w.1, w.2.1, w.2.2.1, fun d hd => ?_⟩
      by_cases e : d = c
      · subst e
        rw [cAr_n (by omega), cAr_e, pk_us, hv]
        exact ⟨hH, rfl⟩
      · exact w.2.2.2 d (by omega)
    unfold fX1_weighOne_29_J153 fX1_weighOne_29_J179 fX1_isSettled_29 fX1_ownWeight_29
    by_cases h3 : hasT n g c = 3
    · rw [if_pos h3] at wq
      cases bs with
      | false =>
        have yB' : y.1 15 = nI 0 := yB
        refine ⟨_, ?_, done (bestF n (hw n g false c) c + 1) wq.symm⟩
        simp (disch := omega) only [hH, h3, yB', Option.bind_some, aI_n, aL_n, aQ_n, sA_n, sL_n, csA_n, i_0, i_1, i_2, i_3, i_4, i_5, i_6, i_7, i_8, i_9, i_10, i_11, i_12, i_13, i_16, i_20, i_21, i_22, i_31, i_99, i_100, i_256, i_1000, nI_eq, nI_leI, nI_ltI, nI_add, pk_mul, ↓reduceIte, nt_le, nf_le, nt_lt, nf_lt, nt_eq, nf_eq, meet_N', meet_P', meet_S', meet_Z', meet_B', meet_O', n_1, n_2, n_3, n_4, n_5, n_10, n_11]
      | true =>
        have yB' : y.1 15 = nI 1 := yB
        refine ⟨_, ?_, done (bestF n (hw n g true c) c + 2 ^ nfree n c) wq.symm⟩
        simp (disch := omega) only [hH, h3, yB', shl1' (nfree n c) (by omega), Option.bind_some, aI_n, aL_n, aQ_n, sA_n, sL_n, csA_n, i_0, i_1, i_2, i_3, i_4, i_5, i_6, i_7, i_8, i_9, i_10, i_11, i_12, i_13, i_16, i_20, i_21, i_22, i_31, i_99, i_100, i_256, i_1000, nI_eq, nI_leI, nI_ltI, nI_add, pk_mul, ↓reduceIte, nt_le, nf_le, nt_lt, nf_lt, nt_eq, nf_eq, meet_N', meet_P', meet_S', meet_Z', meet_B', meet_O', n_1, n_2, n_3, n_4, n_5, n_10, n_11]
    · rw [if_neg h3] at wq
      refine ⟨_, ?_, done 0 wq.symm⟩
      simp (disch := omega) only [hH, Option.bind_some, aI_n, aL_n, aQ_n, sA_n, sL_n, csA_n, i_0, i_1, i_2, i_3, i_4, i_5, i_6, i_7, i_8, i_9, i_10, i_11, i_12, i_13, i_16, i_20, i_21, i_22, i_31, i_99, i_100, i_256, i_1000, nI_eq, nI_leI, nI_ltI, nI_add, pk_mul, ↓reduceIte, nt_le, nf_le, nt_lt, nf_lt, nt_eq, nf_eq, meet_N', meet_P', meet_S', meet_Z', meet_B', meet_O', n_1, n_2, n_3, n_4, n_5, n_10, n_11]
  unfold fX1_weighOne_29
  rw [show (1000000 : Int32) = nI 1000000 by decide]
  rw [show lpN (fun u => fX1_weighOne_29_L17 o u.2.2.2.2.2.2 (nI c) u.1 u.2.1 u.2.2.1 u.2.2.2.1 u.2.2.2.2.1 u.2.2.2.2.2.1) bigN (nI c, (1 : Int32), (0 : Int32), (0 : Int32), nI 1000000, (0 : Int32), z) = _ from e1]
  cases et : top n c with
  | none =>
    have hf := nfree_none et
    have hi := inpR_lt n c
    rw [inpR_none et] at hi ⊢
    obtain ⟨e, w1, w2⟩ := fin (cAr y 17 c (nI (hasT n g c))) (hy.up (by omega)) (by rw [cAr_e, pk_us])
    refine ⟨e, ?_, w2⟩
    rw [hf] at w1 ⊢
    have hgl := hg (inp n c)
    have w1' := w1
    unfold fX1_weighOne_29_J151
    rw [hasT_none et] at w1'
    rcases (show g (inp n c) = 0 ∨ g (inp n c) = 1 ∨ g (inp n c) = 2 by omega) with w | w | w
    · rw [w, show hv 0 = 1 from rfl] at w1'
      simp (disch := omega) only [yJ, yd, rd _ hi, w, b8h 1 (by omega), w1', Option.bind_some, aI_n, aL_n, aQ_n, sA_n, sL_n, csA_n, i_0, i_1, i_2, i_3, i_4, i_5, i_6, i_7, i_8, i_9, i_10, i_11, i_12, i_13, i_16, i_20, i_21, i_22, i_31, i_99, i_100, i_256, i_1000, nI_eq, nI_leI, nI_ltI, nI_add, pk_mul, ↓reduceIte, nt_le, nf_le, nt_lt, nf_lt, nt_eq, nf_eq, meet_N', meet_P', meet_S', meet_Z', meet_B', meet_O', n_1, n_2, n_3, n_4, n_5, n_10, n_11]
    · rw [w, show hv 1 = 2 from rfl] at w1'
      simp (disch := omega) only [yJ, yd, rd _ hi, w, b8h 2 (by omega), w1', Option.bind_some, aI_n, aL_n, aQ_n, sA_n, sL_n, csA_n, i_0, i_1, i_2, i_3, i_4, i_5, i_6, i_7, i_8, i_9, i_10, i_11, i_12, i_13, i_16, i_20, i_21, i_22, i_31, i_99, i_100, i_256, i_1000, nI_eq, nI_leI, nI_ltI, nI_add, pk_mul, ↓reduceIte, nt_le, nf_le, nt_lt, nf_lt, nt_eq, nf_eq, meet_N', meet_P', meet_S', meet_Z', meet_B', meet_O', n_1, n_2, n_3, n_4, n_5, n_10, n_11]
    · rw [w, show hv 2 = 0 from rfl] at w1'
      simp (disch := omega) only [yJ, yd, rd _ hi, w, b8h 0 (by omega), w1', Option.bind_some, aI_n, aL_n, aQ_n, sA_n, sL_n, csA_n, i_0, i_1, i_2, i_3, i_4, i_5, i_6, i_7, i_8, i_9, i_10, i_11, i_12, i_13, i_16, i_20, i_21, i_22, i_31, i_99, i_100, i_256, i_1000, nI_eq, nI_leI, nI_ltI, nI_add, pk_mul, ↓reduceIte, nt_le, nf_le, nt_lt, nf_lt, nt_eq, nf_eq, meet_N', meet_P', meet_S', meet_Z', meet_B', meet_O', n_1, n_2, n_3, n_4, n_5, n_10, n_11]
  | some j =>
    have hf := nfree_some et
    obtain ⟨e, w1, w2⟩ := fin y hy (by rw [ht j et, ← hasT_some et])
    refine ⟨e, ?_, w2⟩
    simp (disch := omega) only [w1, Option.bind_some, aI_n, aL_n, aQ_n, sA_n, sL_n, csA_n, i_0, i_1, i_2, i_3, i_4, i_5, i_6, i_7, i_8, i_9, i_10, i_11, i_12, i_13, i_16, i_20, i_21, i_22, i_31, i_99, i_100, i_256, i_1000, nI_eq, nI_leI, nI_ltI, nI_add, pk_mul, ↓reduceIte, nt_le, nf_le, nt_lt, nf_lt, nt_eq, nf_eq, meet_N', meet_P', meet_S', meet_Z', meet_B', meet_O', n_1, n_2, n_3, n_4, n_5, n_10, n_11]
theorem weigh_29 {o : Nat} {z : CS} {q n : Nat} {g : Nat → Nat} {bs : Bool} {kd wt : Int32} (hc : CuR z 1 17 18 15 16) (t1 : TkAt z q n kd wt g) : ∃ z', fX1_weigh_29 o z q (bsI bs) = some z' ∧ (∀ k, k ≠ 15 → k ≠ 16 → z'.1 k = z.1 k) ∧ (∀ k, k ≠ 17 → k ≠ 18 → z'.2.1 k = z.2.1 k) ∧ z'.2.2.1 = z.2.2.1 ∧ (∀ j, j ≠ 1 → z'.2.2.2.1 j = z.2.2.2.1 j) ∧ z'.2.2.2.2 = z.2.2.2.2 ∧ z'.2.2.2.1 1 = some q ∧ z'.1 15 = bsI bs ∧ z'.1 16 = nI (3 ^ n - 1) ∧ ∀ c, c < 3 ^ n → z'.2.1 17 c = nI (hasT n g c) ∧ z'.2.1 18 c = nI (wT n g bs c) := by
  obtain ⟨n1, n8, hg⟩ := Tk_n t1
  have h6 := p3le n8
  have h3 := p3 n
  have slow : ∃ z', fX1_weigh_29_J17 o z q (bsI bs) = some z' ∧ (∀ k, k ≠ 15 → k ≠ 16 → z'.1 k = z.1 k) ∧ (∀ k, k ≠ 17 → k ≠ 18 → z'.2.1 k = z.2.1 k) ∧ z'.2.2.1 = z.2.2.1 ∧ (∀ j, j ≠ 1 → z'.2.2.2.1 j = z.2.2.2.1 j) ∧ z'.2.2.2.2 = z.2.2.2.2 ∧ z'.2.2.2.1 1 = some q ∧ z'.1 15 = bsI bs ∧ z'.1 16 = nI (3 ^ n - 1) ∧ ∀ c, c < 3 ^ n → z'.2.1 17 c = nI (hasT n g c) ∧ z'.2.1 18 c = nI (wT n g bs c) := by
    obtain ⟨b, f, d1, u2, u3, -, -, -⟩ := id t1
    have zB : (cI (cI (cW z 1 (some q)) 15 (bsI bs)) 16 (nI (3 ^ n - 1))).1 15 = bsI bs := by
      show upd (upd z.1 15 (bsI bs)) 16 (nI (3 ^ n - 1)) 15 = _
      rw [pk_un (by omega), pk_us]
    have zA : (cI (cI (cW z 1 (some q)) 15 (bsI bs)) 16 (nI (3 ^ n - 1))).1 16 = nI (3 ^ n - 1) := by
      show upd (upd z.1 15 (bsI bs)) 16 (nI (3 ^ n - 1)) 16 = _
      rw [pk_us]
    have zJ : (cI (cI (cW z 1 (some q)) 15 (bsI bs)) 16 (nI (3 ^ n - 1))).2.2.2.1 1 = some q := by
      show va_up z.2.2.2.1 1 (some q) 1 = some q
      exact vu_s
    obtain ⟨e, e1, e2⟩ := lp_count (body := fun u => fX1_weigh_29_L42 o u.2 u.1) (fun c s => s.1 = nI c ∧ WgR_29 (cI (cI (cW z 1 (some q)) 15 (bsI bs)) 16 (nI (3 ^ n - 1))) s.2 n g bs c) (3 ^ n) (fun e => WgR_29 (cI (cI (cW z 1 (some q)) 15 (bsI bs)) 16 (nI (3 ^ n - 1))) e n g bs (3 ^ n)) (bigN_gt (by omega)) (fun c s hc hs => by
      obtain ⟨l, y⟩ := s
      obtain ⟨rfl, hy⟩ := hs
      obtain ⟨e, w1, w2⟩ := one_29 (o := o) zB zJ d1 u2 u3 hg hy n8 (show c < 6561 by omega)
      have yA : y.1 16 = nI (3 ^ n - 1) := by rw [hy.1]; exact zA
      refine ⟨(nI (c + 1), e), ?_, rfl, w2⟩
      unfold fX1_weigh_29_L42
      simp (disch := omega) only [yA, w1, Option.bind_some, aI_n, aL_n, aQ_n, sA_n, sL_n, csA_n, i_0, i_1, i_2, i_3, i_4, i_5, i_6, i_7, i_8, i_9, i_10, i_11, i_12, i_13, i_16, i_20, i_21, i_22, i_31, i_99, i_100, i_256, i_1000, nI_eq, nI_leI, nI_ltI, nI_add, pk_mul, ↓reduceIte, nt_le, nf_le, nt_lt, nf_lt, nt_eq, nf_eq, meet_N', meet_P', meet_S', meet_Z', meet_B', meet_O', n_1, n_2, n_3, n_4, n_5, n_10, n_11]) (fun s hs => by
      obtain ⟨l, y⟩ := s
      obtain ⟨rfl, hy⟩ := hs
      have yA : y.1 16 = nI (3 ^ n - 1) := by rw [hy.1]; exact zA
      refine ⟨y, ?_, hy⟩
      unfold fX1_weigh_29_L42
      simp (disch := omega) only [yA, Option.bind_some, aI_n, aL_n, aQ_n, sA_n, sL_n, csA_n, i_0, i_1, i_2, i_3, i_4, i_5, i_6, i_7, i_8, i_9, i_10, i_11, i_12, i_13, i_16, i_20, i_21, i_22, i_31, i_99, i_100, i_256, i_1000, nI_eq, nI_leI, nI_ltI, nI_add, pk_mul, ↓reduceIte, nt_le, nf_le, nt_lt, nf_lt, nt_eq, nf_eq, meet_N', meet_P', meet_S', meet_Z', meet_B', meet_O', n_1, n_2, n_3, n_4, n_5, n_10, n_11]) (s := (nI 0, cI (cI (cW z 1 (some q)) 15 (bsI bs)) 16 (nI (3 ^ n - 1)))) ⟨rfl, rfl, rfl, fun _ _ _ => rfl, fun d hd => by omega⟩
    refine ⟨e, ?_, fun k k1 k2 => ?_, fun k k1 k2 => e2.2.2.1 k k1 k2, by rw [e2.2.1]; rfl, fun j hj => ?_, by rw [e2.2.1]; rfl, by rw [e2.2.1]; exact zJ, by rw [e2.1]; exact zB, by rw [e2.1]; exact zA, e2.2.2.2⟩
    · have hz : zI (bsI bs) = some (bsI bs) := by cases bs <;> rfl
      have hd : dT (cI (cW z 1 (some q)) 15 (bsI bs)) q = some (kd, nI n, wt, some b) := d1
      unfold fX1_weigh_29_J17
      simp (disch := omega) only [hz, hd, pow_n n8, pk_sub, Option.bind_some, aI_n, aL_n, aQ_n, sA_n, sL_n, csA_n, i_0, i_1, i_2, i_3, i_4, i_5, i_6, i_7, i_8, i_9, i_10, i_11, i_12, i_13, i_16, i_20, i_21, i_22, i_31, i_99, i_100, i_256, i_1000, nI_eq, nI_leI, nI_ltI, nI_add, pk_mul, ↓reduceIte, nt_le, nf_le, nt_lt, nf_lt, nt_eq, nf_eq, meet_N', meet_P', meet_S', meet_Z', meet_B', meet_O', n_1, n_2, n_3, n_4, n_5, n_10, n_11]
      exact (congrArg (fun u => u.bind fun e5 => some e5) e1).trans rfl
    · rw [e2.1]
      show upd (upd z.1 15 (bsI bs)) 16 (nI (3 ^ n - 1)) k = _
      rw [pk_un k2, pk_un k1]
    · rw [e2.2.1]
      exact vu_n hj
  unfold fX1_weigh_29
  by_cases hq : z.2.2.2.1 1 = some q
  · rw [if_pos hq]
    by_cases hb : z.1 15 = bsI bs
    · rw [if_pos hb]
      obtain ⟨n', kd', wt', g', bs', c1, c2, c3, c4⟩ := hc q hq
      obtain ⟨rfl, rfl⟩ := Tk_uniq t1 c1
      have hbs : bs' = bs := by
        rw [c3] at hb
        cases bs <;> cases bs' <;> first | rfl | exact absurd hb (by decide)
      subst hbs
      exact ⟨z, rfl, fun _ _ _ => rfl, fun _ _ _ => rfl, rfl, fun _ _ => rfl, rfl, hq, hb, c2, c4⟩
    · rw [if_neg hb]
      exact slow
  · rw [if_neg hq]
    exact slow
