theorem unlike_n {o : Nat} {z : CS} {q n b x : Nat} {kd wt : Int32} {g : Nat → Nat} (n8 : n ≤ 8) (hg : ∀ x, g x ≤ 2) (d1 : dT z q = some (kd, nI n, wt, some b)) (d2 : lnB z b = some (nI (2 ^ n))) (d3 : ∀ x, x < 2 ^ n → rdB z b (nI x) = some (nI (g x))) (hx : x < 2 ^ n) : (fX9_unlikeOnLevel o z q (nI x) = some (-nI 1) ∧ ∀ y, y < 2 ^ n → ¬ (Rel 2 x y ∧ g y = 0)) ∨ ∃ y, y < 2 ^ n ∧ (Rel 2 x y ∧ g y = 0) ∧ (∀ y', y' < y → ¬ (Rel 2 x y' ∧ g y' = 0)) ∧ fX9_unlikeOnLevel o z q (nI x) = some (nI y) := by
  have p2 := p2le n8
  have hR : ∀ y, Rel 2 x y ↔ pop x = pop y := fun y => by unfold Rel; rw [if_neg (by omega)]
  unfold fX9_unlikeOnLevel
  have HH1 := lp_find (body := fun u => fX9_unlikeOnLevel_L2 o z q (nI x) u) (fun i => nI i) (2 ^ n) (fun y => Rel 2 x y ∧ g y = 0) (fun i e => e = .inr (nI i)) (en := .inl ()) (bigN_gt (by omega)) (fun i hi hP => ?_) (fun i hi hP => ?_) ?_
  · rcases HH1 with ⟨e1, e2⟩ | ⟨i, e, e1, e2, e3, rfl, e4⟩
    · exact Or.inl ⟨(congrArg (fun u => u.bind fun e5 => sel e5 (fun _ => some (-1 : Int32)) (fun rt => some rt)) e1).trans rfl, e2⟩
    · exact Or.inr ⟨i, e1, e2, e3, (congrArg (fun u => u.bind fun e5 => sel e5 (fun _ => some (-1 : Int32)) (fun rt => some rt)) e4).trans rfl⟩
  · unfold fX9_unlikeOnLevel_L2 fX9_unlikeOnLevel_L2_J33
    rw [hR] at hP
    have := hg i
    have l1 := pop_le x
    have l2 := pop_le i
    by_cases c : g i = 0
    · have c2 : pop i ≠ pop x := fun w => hP ⟨w.symm, c⟩
      simp (disch := omega) only [d1, d2, d3 i hi, c, bitC i (by omega), bitC x (by omega), Option.bind_some, aI_n, aL_n, aQ_n, sA_n, sL_n, csA_n, i_0, i_1, i_2, i_3, i_4, i_5, i_6, i_7, i_8, i_9, i_10, i_11, i_12, i_13, i_16, i_20, i_21, i_22, i_31, i_99, i_100, i_256, i_1000, nI_eq, nI_leI, nI_ltI, nI_add, pk_mul, ↓reduceIte, nt_le, nf_le, nt_lt, nf_lt, nt_eq, nf_eq, meet_N', meet_P', meet_S', meet_Z', meet_B', meet_O', n_1, n_2, n_3, n_4, n_5, n_10, n_11]
    · simp (disch := omega) only [d1, d2, d3 i hi, Option.bind_some, aI_n, aL_n, aQ_n, sA_n, sL_n, csA_n, i_0, i_1, i_2, i_3, i_4, i_5, i_6, i_7, i_8, i_9, i_10, i_11, i_12, i_13, i_16, i_20, i_21, i_22, i_31, i_99, i_100, i_256, i_1000, nI_eq, nI_leI, nI_ltI, nI_add, pk_mul, ↓reduceIte, nt_le, nf_le, nt_lt, nf_lt, nt_eq, nf_eq, meet_N', meet_P', meet_S', meet_Z', meet_B', meet_O', n_1, n_2, n_3, n_4, n_5, n_10, n_11]
  · unfold fX9_unlikeOnLevel_L2
    rw [hR] at hP
    refine ⟨_, ?_, rfl⟩
    simp (disch := omega) only [d1, d2, d3 i hi, hP.2, bitC i (by omega), bitC x (by omega), hP.1, Option.bind_some, aI_n, aL_n, aQ_n, sA_n, sL_n, csA_n, i_0, i_1, i_2, i_3, i_4, i_5, i_6, i_7, i_8, i_9, i_10, i_11, i_12, i_13, i_16, i_20, i_21, i_22, i_31, i_99, i_100, i_256, i_1000, nI_eq, nI_leI, nI_ltI, nI_add, pk_mul, ↓reduceIte, nt_le, nf_le, nt_lt, nf_lt, nt_eq, nf_eq, meet_N', meet_P', meet_S', meet_Z', meet_B', meet_O', n_1, n_2, n_3, n_4, n_5, n_10, n_11]
  · unfold fX9_unlikeOnLevel_L2
    simp (disch := omega) only [d1, d2, Option.bind_some, aI_n, aL_n, aQ_n, sA_n, sL_n, csA_n, i_0, i_1, i_2, i_3, i_4, i_5, i_6, i_7, i_8, i_9, i_10, i_11, i_12, i_13, i_16, i_20, i_21, i_22, i_31, i_99, i_100, i_256, i_1000, nI_eq, nI_leI, nI_ltI, nI_add, pk_mul, ↓reduceIte, nt_le, nf_le, nt_lt, nf_lt, nt_eq, nf_eq, meet_N', meet_P', meet_S', meet_Z', meet_B', meet_O', n_1, n_2, n_3, n_4, n_5, n_10, n_11]
theorem mnI (y : Nat) (h : y < 2 ^ 31) : (nI y = -nI 1) = False := eq_false fun q => by
  have := congrArg Int32.toInt q
  rw [nI_toInt h] at this
  have e : (-nI 1).toInt = -1 := by decide
  omega
theorem mnI' : (-nI 1 = -nI 1) = True := eq_true rfl
/-- the class looks for a pair against a kind -/
theorem pair_n {o : Nat} {z : CS} {q n b kn : Nat} {kd wt : Int32} {g : Nat → Nat} (hk : kn = 1 ∨ kn = 2) (t1 : TkAt z q n kd wt g) (n1 : 1 ≤ n) (n8 : n ≤ 8) (hg : ∀ x, g x ≤ 2) (d1 : dT z q = some (kd, nI n, wt, some b)) (d2 : lnB z b = some (nI (2 ^ n))) (d3 : ∀ x, x < 2 ^ n → rdB z b (nI x) = some (nI (g x))) : (∃ x, x < 2 ^ n ∧ g x = 2 ∧ (∀ y, y < x → g y ≠ 2) ∧ fX9_pairAgainst o z q (nI kn) = some (nI (x * 256 + x))) ∨ ((∀ x, x < 2 ^ n → g x ≠ 2) ∧ ((fX9_pairAgainst o z q (nI kn) = some (-nI 1) ∧ ∀ x, x < 2 ^ n → ∀ y, y < 2 ^ n → ¬ Pr g kn x y) ∨ ∃ x y, LPr (Pr g kn) (2 ^ n) x y ∧ fX9_pairAgainst o z q (nI kn) = some (nI (x * 256 + y)))) := by
  have p2 := p2le n8
  unfold fX9_pairAgainst
  rcases least_n (o := o) t1 (v := 2) (by omega) with ⟨q1, q2⟩ | ⟨x, q1, q2, q3, q4⟩
  · right
    refine ⟨q2, ?_⟩
    have inner : ∀ x, x < 2 ^ n → g x = 1 → (fX9_pairAgainst_L27 o z q (nI kn) (nI x) = some (.inl (nI (x + 1))) ∧ ∀ y, y < 2 ^ n → ¬ Pr g kn x y) ∨ ∃ y, y < 2 ^ n ∧ Pr g kn x y ∧ (∀ y', y' < y → ¬ Pr g kn x y') ∧ fX9_pairAgainst_L27 o z q (nI kn) (nI x) = some (.inr (.inr (nI (x * 256 + y)))) := by
      intro x hx hx1
      have hx1' : ¬ g x = 0 := by omega
      unfold fX9_pairAgainst_L27 fX9_pairAgainst_L27_J68
      rcases hk with rfl | rfl
      · rcases falling_n (o := o) n1 n8 hg d1 d3 hx with ⟨f1, f2⟩ | ⟨y, f1, f2, f3, f4⟩
        · exact Or.inl ⟨by simp (disch := omega) only [d1, d2, d3 x hx, hx1, f1, mnI', Option.bind_some, aI_n, aL_n, aQ_n, sA_n, sL_n, csA_n, i_0, i_1, i_2, i_3, i_4, i_5, i_6, i_7, i_8, i_9, i_10, i_11, i_12, i_13, i_16, i_20, i_21, i_22, i_31, i_99, i_100, i_256, i_1000, nI_eq, nI_leI, nI_ltI, nI_add, pk_mul, ↓reduceIte, nt_le, nf_le, nt_lt, nf_lt, nt_eq, nf_eq, meet_N', meet_P', meet_S', meet_Z', meet_B', meet_O', n_1, n_2, n_3, n_4, n_5, n_10, n_11], fun y hy w => f2 y hy w.2⟩
        · exact Or.inr ⟨y, f1, ⟨hx1, f2⟩, fun y' hy' w => f3 y' hy' w.2, by simp (disch := omega) only [d1, d2, d3 x hx, hx1, f4, mnI y (by omega), Option.bind_some, aI_n, aL_n, aQ_n, sA_n, sL_n, csA_n, i_0, i_1, i_2, i_3, i_4, i_5, i_6, i_7, i_8, i_9, i_10, i_11, i_12, i_13, i_16, i_20, i_21, i_22, i_31, i_99, i_100, i_256, i_1000, nI_eq, nI_leI, nI_ltI, nI_add, pk_mul, ↓reduceIte, nt_le, nf_le, nt_lt, nf_lt, nt_eq, nf_eq, meet_N', meet_P', meet_S', meet_Z', meet_B', meet_O', n_1, n_2, n_3, n_4, n_5, n_10, n_11]⟩
      · rcases unlike_n (o := o) n8 hg d1 d2 d3 hx with ⟨f1, f2⟩ | ⟨y, f1, f2, f3, f4⟩
        · exact Or.inl ⟨by simp (disch := omega) only [d1, d2, d3 x hx, hx1, f1, mnI', Option.bind_some, aI_n, aL_n, aQ_n, sA_n, sL_n, csA_n, i_0, i_1, i_2, i_3, i_4, i_5, i_6, i_7, i_8, i_9, i_10, i_11, i_12, i_13, i_16, i_20, i_21, i_22, i_31, i_99, i_100, i_256, i_1000, nI_eq, nI_leI, nI_ltI, nI_add, pk_mul, ↓reduceIte, nt_le, nf_le, nt_lt, nf_lt, nt_eq, nf_eq, meet_N', meet_P', meet_S', meet_Z', meet_B', meet_O', n_1, n_2, n_3, n_4, n_5, n_10, n_11], fun y hy w => f2 y hy w.2⟩
        · exact Or.inr ⟨y, f1, ⟨hx1, f2⟩, fun y' hy' w => f3 y' hy' w.2, by simp (disch := omega) only [d1, d2, d3 x hx, hx1, f4, mnI y (by omega), Option.bind_some, aI_n, aL_n, aQ_n, sA_n, sL_n, csA_n, i_0, i_1, i_2, i_3, i_4, i_5, i_6, i_7, i_8, i_9, i_10, i_11, i_12, i_13, i_16, i_20, i_21, i_22, i_31, i_99, i_100, i_256, i_1000, nI_eq, nI_leI, nI_ltI, nI_add, pk_mul, ↓reduceIte, nt_le, nf_le, nt_lt, nf_lt, nt_eq, nf_eq, meet_N', meet_P', meet_S', meet_Z', meet_B', meet_O', n_1, n_2, n_3, n_4, n_5, n_10, n_11]⟩
    have kn0 : ¬ nI kn = nI 0 := by rcases hk with rfl | rfl <;> decide
    have HH2 := lp_find (body := fun u => fX9_pairAgainst_L27 o z q (nI kn) u) (fun i => nI i) (2 ^ n) (fun x => ∃ y, y < 2 ^ n ∧ Pr g kn x y) (fun x e => ∃ y, y < 2 ^ n ∧ Pr g kn x y ∧ (∀ y', y' < y → ¬ Pr g kn x y') ∧ e = .inr (nI (x * 256 + y))) (en := .inl ()) (bigN_gt (by omega)) (fun i hi hP => ?_) (fun i hi hP => ?_) ?_
    · rcases HH2 with ⟨e1, e2⟩ | ⟨x, e, e1, e2, e3, ⟨y, e5, e6, e7, rfl⟩, e4⟩
      · left
        refine ⟨?_, fun x hx y hy w => e2 x hx ⟨y, hy, w⟩⟩
        simp (disch := omega) only [kn0, d1, q1, mnI', Option.bind_some, aI_n, aL_n, aQ_n, sA_n, sL_n, csA_n, i_0, i_1, i_2, i_3, i_4, i_5, i_6, i_7, i_8, i_9, i_10, i_11, i_12, i_13, i_16, i_20, i_21, i_22, i_31, i_99, i_100, i_256, i_1000, nI_eq, nI_leI, nI_ltI, nI_add, pk_mul, ↓reduceIte, nt_le, nf_le, nt_lt, nf_lt, nt_eq, nf_eq, meet_N', meet_P', meet_S', meet_Z', meet_B', meet_O', n_1, n_2, n_3, n_4, n_5, n_10, n_11]
        exact (congrArg (fun u => u.bind fun e5 => sel e5 (fun _ => some (-nI 1)) (fun rt => some rt)) e1).trans rfl
      · right
        refine ⟨x, y, ⟨e1, e5, e6, e7, fun x' hx' y' hy' w => e3 x' hx' ⟨y', hy', w⟩⟩, ?_⟩
        simp (disch := omega) only [kn0, d1, q1, mnI', Option.bind_some, aI_n, aL_n, aQ_n, sA_n, sL_n, csA_n, i_0, i_1, i_2, i_3, i_4, i_5, i_6, i_7, i_8, i_9, i_10, i_11, i_12, i_13, i_16, i_20, i_21, i_22, i_31, i_99, i_100, i_256, i_1000, nI_eq, nI_leI, nI_ltI, nI_add, pk_mul, ↓reduceIte, nt_le, nf_le, nt_lt, nf_lt, nt_eq, nf_eq, meet_N', meet_P', meet_S', meet_Z', meet_B', meet_O', n_1, n_2, n_3, n_4, n_5, n_10, n_11]
        exact (congrArg (fun u => u.bind fun e5 => sel e5 (fun _ => some (-nI 1)) (fun rt => some rt)) e4).trans rfl
    · by_cases h1 : g i = 1
      · rcases inner i hi h1 with ⟨f1, f2⟩ | ⟨y, f1, f2, f3, f4⟩
        · exact f1
        · exact absurd ⟨y, f1, f2⟩ hP
      · unfold fX9_pairAgainst_L27 fX9_pairAgainst_L27_J68
        have := hg i
        simp (disch := omega) only [d1, d2, d3 i hi, mnI', Option.bind_some, aI_n, aL_n, aQ_n, sA_n, sL_n, csA_n, i_0, i_1, i_2, i_3, i_4, i_5, i_6, i_7, i_8, i_9, i_10, i_11, i_12, i_13, i_16, i_20, i_21, i_22, i_31, i_99, i_100, i_256, i_1000, nI_eq, nI_leI, nI_ltI, nI_add, pk_mul, ↓reduceIte, nt_le, nf_le, nt_lt, nf_lt, nt_eq, nf_eq, meet_N', meet_P', meet_S', meet_Z', meet_B', meet_O', n_1, n_2, n_3, n_4, n_5, n_10, n_11]
    · obtain ⟨y, hy, hp⟩ := hP
      rcases inner i hi hp.1 with ⟨f1, f2⟩ | ⟨y, f1, f2, f3, f4⟩
      · exact absurd hp (f2 y hy)
      · exact ⟨_, f4, y, f1, f2, f3, rfl⟩
    · unfold fX9_pairAgainst_L27
      simp (disch := omega) only [d1, d2, Option.bind_some, aI_n, aL_n, aQ_n, sA_n, sL_n, csA_n, i_0, i_1, i_2, i_3, i_4, i_5, i_6, i_7, i_8, i_9, i_10, i_11, i_12, i_13, i_16, i_20, i_21, i_22, i_31, i_99, i_100, i_256, i_1000, nI_eq, nI_leI, nI_ltI, nI_add, pk_mul, ↓reduceIte, nt_le, nf_le, nt_lt, nf_lt, nt_eq, nf_eq, meet_N', meet_P', meet_S', meet_Z', meet_B', meet_O', n_1, n_2, n_3, n_4, n_5, n_10, n_11]
  · left
    refine ⟨x, q1, q2, q3, ?_⟩
    have kn0 : ¬ nI kn = nI 0 := by rcases hk with rfl | rfl <;> decide
    simp (disch := omega) only [kn0, d1, q4, mnI x (by omega), Option.bind_some, aI_n, aL_n, aQ_n, sA_n, sL_n, csA_n, i_0, i_1, i_2, i_3, i_4, i_5, i_6, i_7, i_8, i_9, i_10, i_11, i_12, i_13, i_16, i_20, i_21, i_22, i_31, i_99, i_100, i_256, i_1000, nI_eq, nI_leI, nI_ltI, nI_add, pk_mul, ↓reduceIte, nt_le, nf_le, nt_lt, nf_lt, nt_eq, nf_eq, meet_N', meet_P', meet_S', meet_Z', meet_B', meet_O', n_1, n_2, n_3, n_4, n_5, n_10, n_11]
/-- the reference looks for a pair against a kind -/
theorem shows_n {r : RS} {p n kn : Nat} {kd wt : Int32} {g : Nat → Nat} (hk : kn = 1 ∨ kn = 2) (hp : p < 16) (t2 : TkR r p n kd wt g) (n1 : 1 ≤ n) (n8 : n ≤ 8) (hg : ∀ x, g x ≤ 2) : (∃ x, x < 2 ^ n ∧ g x = 2 ∧ (∀ y, y < x → g y ≠ 2) ∧ fX10_shows r (nI p) (nI kn) = some (nI 1, rI (rI r 3 (nI x)) 4 (nI x))) ∨ ((∀ x, x < 2 ^ n → g x ≠ 2) ∧ ((fX10_shows r (nI p) (nI kn) = some (nI 0, r) ∧ ∀ x, x < 2 ^ n → ∀ y, y < 2 ^ n → ¬ Pr g kn x y) ∨ ∃ x y, LPr (Pr g kn) (2 ^ n) x y ∧ fX10_shows r (nI p) (nI kn) = some (nI 1, rI (rI r 3 (nI x)) 4 (nI y)))) := by
  have p2 := p2le n8
  have hin := inputs_n hp t2.1 n8
  have hsay := fun x (hx : x < 2 ^ n) => say0_n hp t2 n8 hx
  unfold fX10_shows
  have HH3 := lp_find (body := fun u => fX10_shows_L2 u.2 (nI p) (nI kn) u.1) (fun i => (nI i, r)) (2 ^ n) (fun x => g x = 2) (fun x e => e = .inr (nI 1, rI (rI r 3 (nI x)) 4 (nI x))) (en := .inl r) (bigN_gt (by omega)) (fun i hi hP => ?_) (fun i hi hP => ?_) ?_
  · rcases HH3 with ⟨e1, e2⟩ | ⟨x, e, e1, e2, e3, rfl, e4⟩
    · right
      refine ⟨e2, ?_⟩
      have inner : ∀ x, x < 2 ^ n → (lpN (fun u => fX10_shows_L53 u.2 (nI p) (nI kn) (nI x) u.1) bigN (nI 0, r) = some (.inl r) ∧ ∀ y, y < 2 ^ n → ¬ Pr g kn x y) ∨ ∃ y, y < 2 ^ n ∧ Pr g kn x y ∧ (∀ y', y' < y → ¬ Pr g kn x y') ∧ lpN (fun u => fX10_shows_L53 u.2 (nI p) (nI kn) (nI x) u.1) bigN (nI 0, r) = some (.inr (nI 1, rI (rI r 3 (nI x)) 4 (nI y))) := by
        intro x hx
        have HH4 := lp_find (body := fun u => fX10_shows_L53 u.2 (nI p) (nI kn) (nI x) u.1) (fun i => (nI i, r)) (2 ^ n) (fun y => Pr g kn x y) (fun y e => e = .inr (nI 1, rI (rI r 3 (nI x)) 4 (nI y))) (en := .inl r) (bigN_gt (by omega)) (fun i hi hP => ?_) (fun i hi hP => ?_) ?_
        · rcases HH4 with ⟨f1, f2⟩ | ⟨y, e, f1, f2, f3, rfl, f4⟩
          · exact Or.inl ⟨f1, f2⟩
          · exact Or.inr ⟨y, f1, f2, f3, f4⟩
        · have l1 := pop_le x
          have l2 := pop_le i
          have g1 := hg x
          have g2 := hg i
          have l3 : x &&& i ≤ x := Nat.and_le_left
          unfold fX10_shows_L53 fX10_shows_L53_J94 fX10_shows_L53_J115 fX10_shows_L53_J155
          have rest : Rel kn x i → ¬ g x = 1 ∨ (g x = 1 ∧ ¬ g i = 0) := fun hr => by
            by_cases c : g x = 1
            · exact Or.inr ⟨c, fun w => hP ⟨c, hr, w⟩⟩
            · exact Or.inl c
          rcases hk with rfl | rfl
          · unfold Rel at rest
            rw [if_pos rfl] at rest
            by_cases c1 : x &&& i = x
            · by_cases c2 : pop i = pop x + 1
              · rcases rest ⟨c1, c2⟩ with c | ⟨c, c'⟩
                · simp (disch := omega) only [hin, nI_and, c1, ones_n (show i < 256 by omega), ones_n (show x < 256 by omega), c2, hsay x hx, hsay i hi, Option.bind_some, aI_n, aL_n, aQ_n, sA_n, sL_n, csA_n, i_0, i_1, i_2, i_3, i_4, i_5, i_6, i_7, i_8, i_9, i_10, i_11, i_12, i_13, i_16, i_20, i_21, i_22, i_31, i_99, i_100, i_256, i_1000, nI_eq, nI_leI, nI_ltI, nI_add, pk_mul, ↓reduceIte, nt_le, nf_le, nt_lt, nf_lt, nt_eq, nf_eq, meet_N', meet_P', meet_S', meet_Z', meet_B', meet_O', n_1, n_2, n_3, n_4, n_5, n_10, n_11]
                · simp (disch := omega) only [hin, nI_and, c1, ones_n (show i < 256 by omega), ones_n (show x < 256 by omega), c2, hsay x hx, hsay i hi, c, Option.bind_some, aI_n, aL_n, aQ_n, sA_n, sL_n, csA_n, i_0, i_1, i_2, i_3, i_4, i_5, i_6, i_7, i_8, i_9, i_10, i_11, i_12, i_13, i_16, i_20, i_21, i_22, i_31, i_99, i_100, i_256, i_1000, nI_eq, nI_leI, nI_ltI, nI_add, pk_mul, ↓reduceIte, nt_le, nf_le, nt_lt, nf_lt, nt_eq, nf_eq, meet_N', meet_P', meet_S', meet_Z', meet_B', meet_O', n_1, n_2, n_3, n_4, n_5, n_10, n_11]
              · simp (disch := omega) only [hin, nI_and, c1, ones_n (show i < 256 by omega), ones_n (show x < 256 by omega), Option.bind_some, aI_n, aL_n, aQ_n, sA_n, sL_n, csA_n, i_0, i_1, i_2, i_3, i_4, i_5, i_6, i_7, i_8, i_9, i_10, i_11, i_12, i_13, i_16, i_20, i_21, i_22, i_31, i_99, i_100, i_256, i_1000, nI_eq, nI_leI, nI_ltI, nI_add, pk_mul, ↓reduceIte, nt_le, nf_le, nt_lt, nf_lt, nt_eq, nf_eq, meet_N', meet_P', meet_S', meet_Z', meet_B', meet_O', n_1, n_2, n_3, n_4, n_5, n_10, n_11]
            · simp (disch := omega) only [hin, nI_and, Option.bind_some, aI_n, aL_n, aQ_n, sA_n, sL_n, csA_n, i_0, i_1, i_2, i_3, i_4, i_5, i_6, i_7, i_8, i_9, i_10, i_11, i_12, i_13, i_16, i_20, i_21, i_22, i_31, i_99, i_100, i_256, i_1000, nI_eq, nI_leI, nI_ltI, nI_add, pk_mul, ↓reduceIte, nt_le, nf_le, nt_lt, nf_lt, nt_eq, nf_eq, meet_N', meet_P', meet_S', meet_Z', meet_B', meet_O', n_1, n_2, n_3, n_4, n_5, n_10, n_11]
          · unfold Rel at rest
            rw [if_neg (by omega)] at rest
            by_cases c2 : pop x = pop i
            · rcases rest c2 with c | ⟨c, c'⟩
              · simp (disch := omega) only [hin, ones_n (show i < 256 by omega), ones_n (show x < 256 by omega), c2, hsay x hx, hsay i hi, Option.bind_some, aI_n, aL_n, aQ_n, sA_n, sL_n, csA_n, i_0, i_1, i_2, i_3, i_4, i_5, i_6, i_7, i_8, i_9, i_10, i_11, i_12, i_13, i_16, i_20, i_21, i_22, i_31, i_99, i_100, i_256, i_1000, nI_eq, nI_leI, nI_ltI, nI_add, pk_mul, ↓reduceIte, nt_le, nf_le, nt_lt, nf_lt, nt_eq, nf_eq, meet_N', meet_P', meet_S', meet_Z', meet_B', meet_O', n_1, n_2, n_3, n_4, n_5, n_10, n_11]
              · simp (disch := omega) only [hin, ones_n (show i < 256 by omega), ones_n (show x < 256 by omega), c2, hsay x hx, hsay i hi, c, Option.bind_some, aI_n, aL_n, aQ_n, sA_n, sL_n, csA_n, i_0, i_1, i_2, i_3, i_4, i_5, i_6, i_7, i_8, i_9, i_10, i_11, i_12, i_13, i_16, i_20, i_21, i_22, i_31, i_99, i_100, i_256, i_1000, nI_eq, nI_leI, nI_ltI, nI_add, pk_mul, ↓reduceIte, nt_le, nf_le, nt_lt, nf_lt, nt_eq, nf_eq, meet_N', meet_P', meet_S', meet_Z', meet_B', meet_O', n_1, n_2, n_3, n_4, n_5, n_10, n_11]
            · simp (disch := omega) only [hin, ones_n (show i < 256 by omega), ones_n (show x < 256 by omega), Option.bind_some, aI_n, aL_n, aQ_n, sA_n, sL_n, csA_n, i_0, i_1, i_2, i_3, i_4, i_5, i_6, i_7, i_8, i_9, i_10, i_11, i_12, i_13, i_16, i_20, i_21, i_22, i_31, i_99, i_100, i_256, i_1000, nI_eq, nI_leI, nI_ltI, nI_add, pk_mul, ↓reduceIte, nt_le, nf_le, nt_lt, nf_lt, nt_eq, nf_eq, meet_N', meet_P', meet_S', meet_Z', meet_B', meet_O', n_1, n_2, n_3, n_4, n_5, n_10, n_11]
        · have l1 := pop_le x
          have l2 := pop_le i
          refine ⟨_, ?_, rfl⟩
          unfold fX10_shows_L53 fX10_shows_L53_J94 fX10_shows_L53_J115 fX10_shows_L53_J155
          obtain ⟨c, hr, c'⟩ := hP
          unfold Rel at hr
          rcases hk with rfl | rfl
          · rw [if_pos rfl] at hr
            simp (disch := omega) only [hin, nI_and, hr.1, ones_n (show i < 256 by omega), ones_n (show x < 256 by omega), hr.2, hsay x hx, hsay i hi, c, c', Option.bind_some, aI_n, aL_n, aQ_n, sA_n, sL_n, csA_n, i_0, i_1, i_2, i_3, i_4, i_5, i_6, i_7, i_8, i_9, i_10, i_11, i_12, i_13, i_16, i_20, i_21, i_22, i_31, i_99, i_100, i_256, i_1000, nI_eq, nI_leI, nI_ltI, nI_add, pk_mul, ↓reduceIte, nt_le, nf_le, nt_lt, nf_lt, nt_eq, nf_eq, meet_N', meet_P', meet_S', meet_Z', meet_B', meet_O', n_1, n_2, n_3, n_4, n_5, n_10, n_11]
          · rw [if_neg (by omega)] at hr
            simp (disch := omega) only [hin, ones_n (show i < 256 by omega), ones_n (show x < 256 by omega), hr, hsay x hx, hsay i hi, c, c', Option.bind_some, aI_n, aL_n, aQ_n, sA_n, sL_n, csA_n, i_0, i_1, i_2, i_3, i_4, i_5, i_6, i_7, i_8, i_9, i_10, i_11, i_12, i_13, i_16, i_20, i_21, i_22, i_31, i_99, i_100, i_256, i_1000, nI_eq, nI_leI, nI_ltI, nI_add, pk_mul, ↓reduceIte, nt_le, nf_le, nt_lt, nf_lt, nt_eq, nf_eq, meet_N', meet_P', meet_S', meet_Z', meet_B', meet_O', n_1, n_2, n_3, n_4, n_5, n_10, n_11]
        · unfold fX10_shows_L53
          simp (disch := omega) only [hin, Option.bind_some, aI_n, aL_n, aQ_n, sA_n, sL_n, csA_n, i_0, i_1, i_2, i_3, i_4, i_5, i_6, i_7, i_8, i_9, i_10, i_11, i_12, i_13, i_16, i_20, i_21, i_22, i_31, i_99, i_100, i_256, i_1000, nI_eq, nI_leI, nI_ltI, nI_add, pk_mul, ↓reduceIte, nt_le, nf_le, nt_lt, nf_lt, nt_eq, nf_eq, meet_N', meet_P', meet_S', meet_Z', meet_B', meet_O', n_1, n_2, n_3, n_4, n_5, n_10, n_11]
      have HH5 := lp_find (body := fun u => fX10_shows_L41 u.2 (nI p) (nI kn) u.1) (fun i => (nI i, r)) (2 ^ n) (fun x => ∃ y, y < 2 ^ n ∧ Pr g kn x y) (fun x e => ∃ y, y < 2 ^ n ∧ Pr g kn x y ∧ (∀ y', y' < y → ¬ Pr g kn x y') ∧ e = .inr (nI 1, rI (rI r 3 (nI x)) 4 (nI y))) (en := .inl r) (bigN_gt (by omega)) (fun i hi hP => ?_) (fun i hi hP => ?_) ?_
      · rcases HH5 with ⟨f1, f2⟩ | ⟨x, e, f1, f2, f3, ⟨y, f5, f6, f7, rfl⟩, f4⟩
        · left
          refine ⟨?_, fun x hx y hy w => f2 x hx ⟨y, hy, w⟩⟩
          exact (congrArg (fun u => u.bind fun e3 => sel e3 (fun x4 => (lpN (fun u => fX10_shows_L41 u.2 (nI p) (nI kn) u.1) bigN (nI 0, x4)).bind fun e15 => sel e15 (fun x16 => some (nI 0, x16)) (fun rt => some rt)) (fun rt => some rt)) e1).trans ((congrArg (fun u => u.bind fun e15 => sel e15 (fun x16 => some (nI 0, x16)) (fun rt => some rt)) f1).trans rfl)
        · right
          refine ⟨x, y, ⟨f1, f5, f6, f7, fun x' hx' y' hy' w => f3 x' hx' ⟨y', hy', w⟩⟩, ?_⟩
          exact (congrArg (fun u => u.bind fun e3 => sel e3 (fun x4 => (lpN (fun u => fX10_shows_L41 u.2 (nI p) (nI kn) u.1) bigN (nI 0, x4)).bind fun e15 => sel e15 (fun x16 => some (nI 0, x16)) (fun rt => some rt)) (fun rt => some rt)) e1).trans ((congrArg (fun u => u.bind fun e15 => sel e15 (fun x16 => some (nI 0, x16)) (fun rt => some rt)) f4).trans rfl)
      · rcases inner i hi with ⟨g1, g2⟩ | ⟨y, g1, g2, g3, g4⟩
        · unfold fX10_shows_L41
          simp (disch := omega) only [hin, g1, sel, Option.bind_some, aI_n, aL_n, aQ_n, sA_n, sL_n, csA_n, i_0, i_1, i_2, i_3, i_4, i_5, i_6, i_7, i_8, i_9, i_10, i_11, i_12, i_13, i_16, i_20, i_21, i_22, i_31, i_99, i_100, i_256, i_1000, nI_eq, nI_leI, nI_ltI, nI_add, pk_mul, ↓reduceIte, nt_le, nf_le, nt_lt, nf_lt, nt_eq, nf_eq, meet_N', meet_P', meet_S', meet_Z', meet_B', meet_O', n_1, n_2, n_3, n_4, n_5, n_10, n_11]
        · exact absurd ⟨y, g1, g2⟩ hP
      · obtain ⟨y, hy, hp⟩ := hP
        rcases inner i hi with ⟨g1, g2⟩ | ⟨y, g1, g2, g3, g4⟩
        · exact absurd hp (g2 y hy)
        · refine ⟨_, ?_, y, g1, g2, g3, rfl⟩
          unfold fX10_shows_L41
          simp (disch := omega) only [hin, g4, sel, Option.bind_some, aI_n, aL_n, aQ_n, sA_n, sL_n, csA_n, i_0, i_1, i_2, i_3, i_4, i_5, i_6, i_7, i_8, i_9, i_10, i_11, i_12, i_13, i_16, i_20, i_21, i_22, i_31, i_99, i_100, i_256, i_1000, nI_eq, nI_leI, nI_ltI, nI_add, pk_mul, ↓reduceIte, nt_le, nf_le, nt_lt, nf_lt, nt_eq, nf_eq, meet_N', meet_P', meet_S', meet_Z', meet_B', meet_O', n_1, n_2, n_3, n_4, n_5, n_10, n_11]
      · unfold fX10_shows_L41
        simp (disch := omega) only [hin, Option.bind_some, aI_n, aL_n, aQ_n, sA_n, sL_n, csA_n, i_0, i_1, i_2, i_3, i_4, i_5, i_6, i_7, i_8, i_9, i_10, i_11, i_12, i_13, i_16, i_20, i_21, i_22, i_31, i_99, i_100, i_256, i_1000, nI_eq, nI_leI, nI_ltI, nI_add, pk_mul, ↓reduceIte, nt_le, nf_le, nt_lt, nf_lt, nt_eq, nf_eq, meet_N', meet_P', meet_S', meet_Z', meet_B', meet_O', n_1, n_2, n_3, n_4, n_5, n_10, n_11]
    · left
      refine ⟨x, e1, e2, e3, ?_⟩
      exact (congrArg (fun u => u.bind fun e3 => sel e3 (fun x4 => (lpN (fun u => fX10_shows_L41 u.2 (nI p) (nI kn) u.1) bigN (nI 0, x4)).bind fun e15 => sel e15 (fun x16 => some (nI 0, x16)) (fun rt => some rt)) (fun rt => some rt)) e4).trans rfl
  · unfold fX10_shows_L2
    have := hg i
    simp (disch := omega) only [hin, hsay i hi, Option.bind_some, aI_n, aL_n, aQ_n, sA_n, sL_n, csA_n, i_0, i_1, i_2, i_3, i_4, i_5, i_6, i_7, i_8, i_9, i_10, i_11, i_12, i_13, i_16, i_20, i_21, i_22, i_31, i_99, i_100, i_256, i_1000, nI_eq, nI_leI, nI_ltI, nI_add, pk_mul, ↓reduceIte, nt_le, nf_le, nt_lt, nf_lt, nt_eq, nf_eq, meet_N', meet_P', meet_S', meet_Z', meet_B', meet_O', n_1, n_2, n_3, n_4, n_5, n_10, n_11]
  · unfold fX10_shows_L2
    refine ⟨_, ?_, rfl⟩
    simp (disch := omega) only [hin, hsay i hi, hP, Option.bind_some, aI_n, aL_n, aQ_n, sA_n, sL_n, csA_n, i_0, i_1, i_2, i_3, i_4, i_5, i_6, i_7, i_8, i_9, i_10, i_11, i_12, i_13, i_16, i_20, i_21, i_22, i_31, i_99, i_100, i_256, i_1000, nI_eq, nI_leI, nI_ltI, nI_add, pk_mul, ↓reduceIte, nt_le, nf_le, nt_lt, nf_lt, nt_eq, nf_eq, meet_N', meet_P', meet_S', meet_Z', meet_B', meet_O', n_1, n_2, n_3, n_4, n_5, n_10, n_11]
  · unfold fX10_shows_L2
    simp (disch := omega) only [hin, Option.bind_some, aI_n, aL_n, aQ_n, sA_n, sL_n, csA_n, i_0, i_1, i_2, i_3, i_4, i_5, i_6, i_7, i_8, i_9, i_10, i_11, i_12, i_13, i_16, i_20, i_21, i_22, i_31, i_99, i_100, i_256, i_1000, nI_eq, nI_leI, nI_ltI, nI_add, pk_mul, ↓reduceIte, nt_le, nf_le, nt_lt, nf_lt, nt_eq, nf_eq, meet_N', meet_P', meet_S', meet_Z', meet_B', meet_O', n_1, n_2, n_3, n_4, n_5, n_10, n_11]
