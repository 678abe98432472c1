/-! ===== tree ===== -/
theorem CubR.le {r0 r : RS} {n m k : Nat} {g : Nat → Nat} (h : CubR r0 r n g m) (hk : k ≤ m) : CubR r0 r n g k := ⟨h.1, h.2.1, h.2.2.1, fun d hd => h.2.2.2 d (by omega)⟩
theorem WgR_5.le {z0 z : CS} {n m k : Nat} {g : Nat → Nat} {bs : Bool} (h : WgR_5 z0 z n g bs m) (hk : k ≤ m) : WgR_5 z0 z n g bs k := ⟨h.1, h.2.1, h.2.2.1, fun d hd => h.2.2.2 d (by omega)⟩
def BB (n : Nat) (g : Nat → Nat) (bs : Bool) (c b : Nat) : Prop := b < n ∧ dg c b = 2 ∧ hw n g bs c b = bestF n (hw n g bs c) c ∧ ∀ j, j < b → ¬ (dg c j = 2 ∧ hw n g bs c j = bestF n (hw n g bs c) c)
def bb (w : Nat → Nat) (c : Nat) : Nat → Option Nat
  | 0 => none
  | i + 1 => if dg c i = 2 ∧ w i < bestF i w c then some i else bb w c i
theorem bestF_none {w : Nat → Nat} {c i : Nat} (h : ∀ j, j < i → dg c j ≠ 2) : bestF i w c = 1000000 := by
  induction i with
  | zero => rfl
  | succ i ih => rw [bestF_n (h i (by omega))]; exact ih (fun j hj => h j (by omega))
theorem bb_ok {w : Nat → Nat} {c : Nat} (hw : ∀ i, dg c i = 2 → w i < 1000000) : ∀ i, (bb w c i = none ∧ ∀ j, j < i → dg c j ≠ 2) ∨ ∃ b, bb w c i = some b ∧ b < i ∧ dg c b = 2 ∧ w b = bestF i w c ∧ ∀ j, j < b → dg c j = 2 → bestF i w c < w j := by
  intro i
  induction i with
  | zero => exact Or.inl ⟨rfl, fun j hj => by omega⟩
  | succ i ih =>
    by_cases h2 : dg c i = 2
    · rw [bestF_2 h2]
      rcases ih with ⟨e, hn⟩ | ⟨b, e, hb, hb2, hb3, hb4⟩
      · have b0 := bestF_none (w := w) hn
        have hwi := hw i h2
        right
        refine ⟨i, if_pos ⟨h2, by omega⟩, by omega, h2, by omega, fun j hj hj2 => absurd hj2 (hn j hj)⟩
      · right
        by_cases hlt : w i < bestF i w c
        · refine ⟨i, if_pos ⟨h2, hlt⟩, by omega, h2, by omega, fun j hj hj2 => ?_⟩
          have := bestF_le (w := w) hj hj2
          omega
        · refine ⟨b, (if_neg (fun q => hlt q.2)).trans e, by omega, hb2, by omega, fun j hj hj2 => ?_⟩
          have := hb4 j hj hj2
          omega
    · rw [bestF_n h2]
      rcases ih with ⟨e, hn⟩ | ⟨b, e, hb, hb2, hb3, hb4⟩
      · refine Or.inl ⟨(if_neg (fun q => h2 q.1)).trans e, fun j hj => ?_⟩
        by_cases ej : j = i
        · rw [ej]; exact h2
        · exact hn j (by omega)
      · exact Or.inr ⟨b, (if_neg (fun q => h2 q.1)).trans e, by omega, hb2, hb3, hb4⟩
theorem hw_lt {n : Nat} (hn : n ≤ 8) (g : Nat → Nat) (bs : Bool) (c i : Nat) : hw n g bs c i ≤ 4096 := by
  have b1 := wT_b hn g bs (c - 3 ^ i)
  have b2 := wT_b hn g bs (c - 2 * 3 ^ i)
  unfold hw comb
  cases bs <;> simp <;> omega
theorem bb_BB {n : Nat} (hn : n ≤ 8) {g : Nat → Nat} {bs : Bool} {c : Nat} (h3 : hasT n g c = 3) : ∃ b, bb (hw n g bs c) c n = some b ∧ BB n g bs c b := by
  obtain ⟨i, e⟩ := hasT_3 h3
  obtain ⟨hi, h2, -⟩ := top_some e
  rcases bb_ok (w := hw n g bs c) (c := c) (fun i _ => by have := hw_lt hn g bs c i; omega) n with ⟨-, hn'⟩ | ⟨b, e, hb, hb2, hb3, hb4⟩
  · exact absurd h2 (hn' i hi)
  · exact ⟨b, e, hb, hb2, hb3, fun j hj q => by have := hb4 j hj q.1; omega⟩
theorem BB_u {n : Nat} {g : Nat → Nat} {bs : Bool} {c b b' : Nat} (h : BB n g bs c b) (h' : BB n g bs c b') : b = b' := by
  obtain ⟨x1, x2, x3, x4⟩ := h
  obtain ⟨y1, y2, y3, y4⟩ := h'
  rcases Nat.lt_trichotomy b b' with q | q | q
  · exact absurd ⟨x2, x3⟩ (y4 b q)
  · exact q
  · exact absurd ⟨y2, y3⟩ (x4 b' q)
/-- the class's cubes as they are weighed -/
def WZ (z : CS) (q n : Nat) (g : Nat → Nat) (bs : Bool) : Prop := z.2.2.2.1 0 = some q ∧ z.1 4 = bsI bs ∧ (∃ (kd wt : Int32) (b : Nat), dT z q = some (kd, nI n, wt, some b)) ∧ ∀ c, c < 3 ^ n → z.2.1 1 c = nI (hasT n g c) ∧ z.2.1 2 c = nI (wT n g bs c)
theorem m1gt : (-nI 1 < nI 0) = True := by decide
theorem m1_add {a : Nat} (h : 1 ≤ a) : nI a + -nI 1 = nI (a - 1) := by
  obtain ⟨k, rfl⟩ : ∃ k, a = k + 1 := ⟨a - 1, by omega⟩
  exact pk_m1 k
theorem bestBit_n {o : Nat} {z : CS} {q n c : Nat} {g : Nat → Nat} {bs : Bool} (h : WZ z q n g bs) (hn : n ≤ 8) (hc : c < 3 ^ n) : fX1_bestBit_5 o z (nI c) = some (tI (bb (hw n g bs c) c n)) := by
  have h6 := p3le hn
  obtain ⟨hJ, hB, ⟨kd, wt, b, d1⟩, ha⟩ := h
  have wg : WgR_5 z z n g bs c := ⟨rfl, rfl, fun _ _ _ => rfl, fun d hd => ha d (by omega)⟩
  have key : lpN (fun u => fX1_bestBit_5_L14 o z (nI c) u.1 u.2.1 u.2.2.1 u.2.2.2.1 u.2.2.2.2) bigN (nI c, nI 1, -nI 1, nI 1000000, nI 0) = some (tI (bb (hw n g bs c) c n)) := by
    have e0 : (nI c, nI 1, -nI 1, nI 1000000, nI 0) = (fun i => (nI (c / 3 ^ i), nI (3 ^ i), tI (bb (hw n g bs c) c i), nI (bestF i (hw n g bs c) c), nI i)) 0 := by
      show _ = (nI (c / 3 ^ 0), nI (3 ^ 0), -nI 1, nI 1000000, nI 0)
      rw [Nat.pow_zero, Nat.div_one]
    rw [e0]
    refine lp_det (body := fun u => fX1_bestBit_5_L14 o z (nI c) u.1 u.2.1 u.2.2.1 u.2.2.2.1 u.2.2.2.2) (fun i => (nI (c / 3 ^ i), nI (3 ^ i), tI (bb (hw n g bs c) c i), nI (bestF i (hw n g bs c) c), nI i)) n (bigN_gt (by omega)) (fun i hi => ?_) ?_
    · have e3 : c / 3 ^ i < 2 ^ 31 := by
        have : c / 3 ^ i ≤ c := Nat.div_le_self _ _
        omega
      have rr : nI (c / 3 ^ i) - nI (c / 3 ^ i) / (3 : Int32) * (3 : Int32) = nI (dg c i) := rem3 e3
      have hdl := dg_lt c i
      have q1 := bestF_m i c (hw n g bs c)
      have q2 := hw_lt hn g bs c i
      unfold fX1_bestBit_5_L14 fX1_bestBit_5_L14_J56
      simp only [rr]
      by_cases h2 : dg c i = 2
      · have hh := halves_5 (o := o) hB wg hn (show c < 6561 by omega) hi h2
        by_cases lt : hw n g bs c i < bestF i (hw n g bs c) c
        · have e1 : bb (hw n g bs c) c (i + 1) = some i := if_pos ⟨h2, lt⟩
          rw [e1, bestF_2 h2, Nat.min_eq_right (by omega), Nat.pow_succ]
          simp (disch := omega) only [hJ, d1, h2, hh, div3 (show c < 6561 by omega), tI, Option.bind_some, aI_n, aL_n, aQ_n, sA_n, sL_n, csA_n, i_0, i_1, i_2, i_3, i_4, i_5, i_6, i_7, i_8, i_9, i_10, i_11, i_12, i_13, i_16, i_20, i_21, i_22, i_31, i_99, i_100, i_256, i_1000, nI_eq, nI_leI, nI_ltI, nI_add, pk_mul, ↓reduceIte, nt_le, nf_le, nt_lt, nf_lt, nt_eq, nf_eq, meet_N', meet_P', meet_S', meet_Z', meet_B', meet_O', n_1, n_2, n_3, n_4, n_5, n_10, n_11]
          rw [Nat.pow_succ]
        · have e1 : bb (hw n g bs c) c (i + 1) = bb (hw n g bs c) c i := if_neg (fun w => lt w.2)
          rw [e1, bestF_2 h2, Nat.min_eq_left (by omega), Nat.pow_succ]
          simp (disch := omega) only [hJ, d1, h2, hh, div3 (show c < 6561 by omega), Option.bind_some, aI_n, aL_n, aQ_n, sA_n, sL_n, csA_n, i_0, i_1, i_2, i_3, i_4, i_5, i_6, i_7, i_8, i_9, i_10, i_11, i_12, i_13, i_16, i_20, i_21, i_22, i_31, i_99, i_100, i_256, i_1000, nI_eq, nI_leI, nI_ltI, nI_add, pk_mul, ↓reduceIte, nt_le, nf_le, nt_lt, nf_lt, nt_eq, nf_eq, meet_N', meet_P', meet_S', meet_Z', meet_B', meet_O', n_1, n_2, n_3, n_4, n_5, n_10, n_11]
          rw [Nat.pow_succ]
      · have e1 : bb (hw n g bs c) c (i + 1) = bb (hw n g bs c) c i := if_neg (fun w => h2 w.1)
        rw [e1, bestF_n h2, Nat.pow_succ]
        simp (disch := omega) only [hJ, d1, div3 (show c < 6561 by omega), Option.bind_some, aI_n, aL_n, aQ_n, sA_n, sL_n, csA_n, i_0, i_1, i_2, i_3, i_4, i_5, i_6, i_7, i_8, i_9, i_10, i_11, i_12, i_13, i_16, i_20, i_21, i_22, i_31, i_99, i_100, i_256, i_1000, nI_eq, nI_leI, nI_ltI, nI_add, pk_mul, ↓reduceIte, nt_le, nf_le, nt_lt, nf_lt, nt_eq, nf_eq, meet_N', meet_P', meet_S', meet_Z', meet_B', meet_O', n_1, n_2, n_3, n_4, n_5, n_10, n_11]
        rw [Nat.pow_succ]
    · unfold fX1_bestBit_5_L14
      simp (disch := omega) only [hJ, d1, Option.bind_some, aI_n, aL_n, aQ_n, sA_n, sL_n, csA_n, i_0, i_1, i_2, i_3, i_4, i_5, i_6, i_7, i_8, i_9, i_10, i_11, i_12, i_13, i_16, i_20, i_21, i_22, i_31, i_99, i_100, i_256, i_1000, nI_eq, nI_leI, nI_ltI, nI_add, pk_mul, ↓reduceIte, nt_le, nf_le, nt_lt, nf_lt, nt_eq, nf_eq, meet_N', meet_P', meet_S', meet_Z', meet_B', meet_O', n_1, n_2, n_3, n_4, n_5, n_10, n_11]
  unfold fX1_bestBit_5
  rw [show (1000000 : Int32) = nI 1000000 by decide]
  exact (congrArg (fun u => u.bind fun e5 => some e5) key).trans rfl
theorem looked_n {r : RS} {n c b : Nat} {g : Nat → Nat} {bs : Bool} (hp : PwR r) (h : CubR r r n g (3 ^ n)) (hn : n ≤ 8) (hc : c < 3 ^ n) (h3 : hasT n g c = 3) (hb : BB n g bs c b) : fX10_lookedAt r (nI c) (nI n) (bsI bs) = some (nI b) := by
  have h6 := p3le hn
  have hcu := h.le (show c ≤ 3 ^ n by omega)
  have hv := h.2.2.2 c hc
  have wq := fun bs => wT_eq n g bs c
  have hf := p2le (Nat.le_trans (nfree_le n c) hn)
  have HH := lp_find (body := fun u => fX10_lookedAt_L3 r (nI c) (nI n) (bsI bs) u) (fun i => nI i) n (fun i => dg c i = 2 ∧ hw n g bs c i = bestF n (hw n g bs c) c) (fun i e => e = .inr (nI i)) (en := .inl ()) (bigN_gt (by omega)) (fun i hi hP => ?_) (fun i hi hP => ?_) ?_
  · unfold fX10_lookedAt
    rcases HH with ⟨e1, e2⟩ | ⟨i, e, e1, e2, e3, rfl, e4⟩
    · exact absurd ⟨hb.2.1, hb.2.2.1⟩ (e2 b hb.1)
    · have : i = b := BB_u ⟨e1, e2.1, e2.2, e3⟩ hb
      subst this
      exact (congrArg (fun u => u.bind fun e6 => sel e6 (fun _ => some (-1 : Int32)) (fun rt => some rt)) e4).trans rfl
  · have hdl := dg_lt c i
    have q1 := bestF_m n c (hw n g bs c)
    have q2 := hw_lt hn g bs c i
    unfold fX10_lookedAt_L3 fX10_lookedAt_L3_J61 fX10_lookedAt_L3_J64
    by_cases h2 : dg c i = 2
    · have ne : hw n g bs c i ≠ bestF n (hw n g bs c) c := fun w => hP ⟨h2, w⟩
      cases bs with
      | false =>
        have w := wq false
        rw [if_pos h3] at w
        have o1 : ownW false n c = 1 := rfl
        simp (disch := omega) only [digit_n hp (show c < 6561 by omega) (show i ≤ 8 by omega), h2, show bsI false = nI 0 from rfl, deeper_n hp hcu hn (show c < 6561 by omega) hi h2, hv.2.1, w, o1, Option.bind_some, aI_n, aL_n, aQ_n, sA_n, sL_n, csA_n, i_0, i_1, i_2, i_3, i_4, i_5, i_6, i_7, i_8, i_9, i_10, i_11, i_12, i_13, i_16, i_20, i_21, i_22, i_31, i_99, i_100, i_256, i_1000, nI_eq, nI_leI, nI_ltI, nI_add, pk_mul, ↓reduceIte, nt_le, nf_le, nt_lt, nf_lt, nt_eq, nf_eq, meet_N', meet_P', meet_S', meet_Z', meet_B', meet_O', n_1, n_2, n_3, n_4, n_5, n_10, n_11]
      | true =>
        have w := wq true
        rw [if_pos h3] at w
        have o1 : ownW true n c = 2 ^ nfree n c := rfl
        simp (disch := omega) only [digit_n hp (show c < 6561 by omega) (show i ≤ 8 by omega), h2, show bsI true = nI 1 from rfl, sums_n hp hcu hn (show c < 6561 by omega) hi h2 hv.2.2.2, hv.2.2.1, w, o1, Option.bind_some, aI_n, aL_n, aQ_n, sA_n, sL_n, csA_n, i_0, i_1, i_2, i_3, i_4, i_5, i_6, i_7, i_8, i_9, i_10, i_11, i_12, i_13, i_16, i_20, i_21, i_22, i_31, i_99, i_100, i_256, i_1000, nI_eq, nI_leI, nI_ltI, nI_add, pk_mul, ↓reduceIte, nt_le, nf_le, nt_lt, nf_lt, nt_eq, nf_eq, meet_N', meet_P', meet_S', meet_Z', meet_B', meet_O', n_1, n_2, n_3, n_4, n_5, n_10, n_11]
    · simp (disch := omega) only [digit_n hp (show c < 6561 by omega) (show i ≤ 8 by omega), Option.bind_some, aI_n, aL_n, aQ_n, sA_n, sL_n, csA_n, i_0, i_1, i_2, i_3, i_4, i_5, i_6, i_7, i_8, i_9, i_10, i_11, i_12, i_13, i_16, i_20, i_21, i_22, i_31, i_99, i_100, i_256, i_1000, nI_eq, nI_leI, nI_ltI, nI_add, pk_mul, ↓reduceIte, nt_le, nf_le, nt_lt, nf_lt, nt_eq, nf_eq, meet_N', meet_P', meet_S', meet_Z', meet_B', meet_O', n_1, n_2, n_3, n_4, n_5, n_10, n_11]
  · have q1 := bestF_m n c (hw n g bs c)
    have q2 := hw_lt hn g bs c i
    refine ⟨_, ?_, rfl⟩
    unfold fX10_lookedAt_L3 fX10_lookedAt_L3_J61
    cases bs with
    | false =>
      have w := wq false
      rw [if_pos h3] at w
      have o1 : ownW false n c = 1 := rfl
      simp (disch := omega) only [digit_n hp (show c < 6561 by omega) (show i ≤ 8 by omega), hP.1, show bsI false = nI 0 from rfl, deeper_n hp hcu hn (show c < 6561 by omega) hi hP.1, hv.2.1, w, o1, hP.2, Option.bind_some, aI_n, aL_n, aQ_n, sA_n, sL_n, csA_n, i_0, i_1, i_2, i_3, i_4, i_5, i_6, i_7, i_8, i_9, i_10, i_11, i_12, i_13, i_16, i_20, i_21, i_22, i_31, i_99, i_100, i_256, i_1000, nI_eq, nI_leI, nI_ltI, nI_add, pk_mul, ↓reduceIte, nt_le, nf_le, nt_lt, nf_lt, nt_eq, nf_eq, meet_N', meet_P', meet_S', meet_Z', meet_B', meet_O', n_1, n_2, n_3, n_4, n_5, n_10, n_11]
    | true =>
      have w := wq true
      rw [if_pos h3] at w
      have o1 : ownW true n c = 2 ^ nfree n c := rfl
      have cm : 2 ^ nfree n c + bestF n (hw n g true c) c = bestF n (hw n g true c) c + 2 ^ nfree n c := Nat.add_comm _ _
      simp (disch := omega) only [digit_n hp (show c < 6561 by omega) (show i ≤ 8 by omega), hP.1, show bsI true = nI 1 from rfl, sums_n hp hcu hn (show c < 6561 by omega) hi hP.1 hv.2.2.2, hv.2.2.1, w, o1, hP.2, cm, Option.bind_some, aI_n, aL_n, aQ_n, sA_n, sL_n, csA_n, i_0, i_1, i_2, i_3, i_4, i_5, i_6, i_7, i_8, i_9, i_10, i_11, i_12, i_13, i_16, i_20, i_21, i_22, i_31, i_99, i_100, i_256, i_1000, nI_eq, nI_leI, nI_ltI, nI_add, pk_mul, ↓reduceIte, nt_le, nf_le, nt_lt, nf_lt, nt_eq, nf_eq, meet_N', meet_P', meet_S', meet_Z', meet_B', meet_O', n_1, n_2, n_3, n_4, n_5, n_10, n_11]
  · unfold fX10_lookedAt_L3
    simp (disch := omega) only [Option.bind_some, aI_n, aL_n, aQ_n, sA_n, sL_n, csA_n, i_0, i_1, i_2, i_3, i_4, i_5, i_6, i_7, i_8, i_9, i_10, i_11, i_12, i_13, i_16, i_20, i_21, i_22, i_31, i_99, i_100, i_256, i_1000, nI_eq, nI_leI, nI_ltI, nI_add, pk_mul, ↓reduceIte, nt_le, nf_le, nt_lt, nf_lt, nt_eq, nf_eq, meet_N', meet_P', meet_S', meet_Z', meet_B', meet_O', n_1, n_2, n_3, n_4, n_5, n_10, n_11]
