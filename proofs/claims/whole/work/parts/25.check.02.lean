/-- a told tree that stands -/
def TT (w n : Nat) (V : Nat → Int32) (y : CS) : Prop := (∀ p, p < w → OkV n (V p)) ∧ EE (lfV V) w 0 1 = some w ∧ y.1 7 = nI w ∧ ∀ p, p < w → y.2.1 6 p = V p ∧ ∃ e, EE (lfV V) w p 1 = some e ∧ y.2.1 8 p = nI e
theorem rem10 {a : Nat} (ha : a < 2 ^ 31) : nI a - nI a / nI 10 * nI 10 = nI (a % 10) := pk_rem ha (by omega) (by omega)
theorem walk_n {o : Nat} {y : CS} {r : RS} {w n x : Nat} {V : Nat → Int32} {l1 : Int32} (hw : w ≤ 100) (n8 : n ≤ 8) (hx : x < 256) (hT : TT w n V y) (hV : ∀ k, k < w → r.2.1 7 k = V k) : ∃ b k p, b ≤ 1 ∧ k ≤ 100 ∧ p < w ∧ V p = nI (20 + b) ∧ fX5_walk_12 o y (nI x) = some (nI (b + 10 * k)) ∧ lpN (fun u => fX10_check_L138 r l1 (nI w) (nI x) u) bigN (nI 0) = some (nI p) := by
  obtain ⟨t1, t2, t3, t4⟩ := hT
  have w1 : 1 ≤ w := by
    have := (EE_r (lf := lfV V) (w := w) w 0 1 w (by omega) t2).2 (by omega)
    omega
  have HH := lp_pair (b1 := fun u => fX5_walk_12_L4 o y (nI x) u.1 u.2) (b2 := fun u => fX10_check_L138 r l1 (nI w) (nI x) u) (fun s1 s2 => ∃ p k, p < w ∧ k ≤ p ∧ s1 = (nI p, nI k) ∧ s2 = nI p) (fun s => 1000 - s.1.toNatClampNeg) (fun e1 e2 => ∃ b k p, b ≤ 1 ∧ k ≤ 100 ∧ p < w ∧ V p = nI (20 + b) ∧ e1 = (nI p, nI k) ∧ e2 = nI p) (fun s1 s2 hs => ?_) bigN (nI 0, nI 0) (nI 0) ⟨0, 0, by omega, Nat.le_refl _, rfl, rfl⟩ (by show 1000 - _ < 1000000000; omega)
  · obtain ⟨e1, e2, a1, a2, b, k, p, c1, c2, c3, c4, rfl, rfl⟩ := HH
    refine ⟨b, k, p, c1, c2, c3, c4, ?_, a2⟩
    have y6 := (t4 p c3).1
    unfold fX5_walk_12
    simp (disch := omega) only [a1, y6, c4, pk_sub, Option.bind_some, aI_n, aL_n, aQ_n, sA_n, sL_n, csA_n, i_0, i_1, i_2, i_3, i_4, i_5, i_6, i_7, i_8, i_9, i_10, i_11, i_12, i_13, i_16, i_20, i_21, i_22, i_31, i_99, i_100, i_256, i_1000, nI_eq, nI_leI, nI_ltI, nI_add, pk_mul, ↓reduceIte, nt_le, nf_le, nt_lt, nf_lt, nt_eq, nf_eq, meet_N', meet_P', meet_S', meet_Z', meet_B', meet_O', n_1, n_2, n_3, n_4, n_5, n_10, n_11]
    rw [show 20 + b - 20 = b by omega]
  · obtain ⟨p, k, hp, hk, rfl, rfl⟩ := hs
    obtain ⟨y6, e, a1, a2⟩ := t4 p hp
    have hVp := hV p hp
    have leaf : ∀ b, b ≤ 1 → V p = nI (20 + b) → (∃ t1 t2, (fun u : Int32 × Int32 => fX5_walk_12_L4 o y (nI x) u.1 u.2) (nI p, nI k) = some (.inl t1) ∧ (fun u => fX10_check_L138 r l1 (nI w) (nI x) u) (nI p) = some (.inl t2) ∧ (∃ p k, p < w ∧ k ≤ p ∧ t1 = (nI p, nI k) ∧ t2 = nI p) ∧ 1000 - t1.1.toNatClampNeg < 1000 - (nI p).toNatClampNeg) ∨ ∃ e1 e2, (fun u : Int32 × Int32 => fX5_walk_12_L4 o y (nI x) u.1 u.2) (nI p, nI k) = some (.inr e1) ∧ (fun u => fX10_check_L138 r l1 (nI w) (nI x) u) (nI p) = some (.inr e2) ∧ ∃ b k p, b ≤ 1 ∧ k ≤ 100 ∧ p < w ∧ V p = nI (20 + b) ∧ e1 = (nI p, nI k) ∧ e2 = nI p := by
      intro b hb hv
      right
      refine ⟨(nI p, nI k), nI p, ?_, ?_, b, k, p, hb, by omega, hp, hv, rfl, rfl⟩
      · show fX5_walk_12_L4 o y (nI x) (nI p) (nI k) = _
        unfold fX5_walk_12_L4 fX5_isLook_12
        simp (disch := omega) only [t3, y6, hv, Option.bind_some, aI_n, aL_n, aQ_n, sA_n, sL_n, csA_n, i_0, i_1, i_2, i_3, i_4, i_5, i_6, i_7, i_8, i_9, i_10, i_11, i_12, i_13, i_16, i_20, i_21, i_22, i_31, i_99, i_100, i_256, i_1000, nI_eq, nI_leI, nI_ltI, nI_add, pk_mul, ↓reduceIte, nt_le, nf_le, nt_lt, nf_lt, nt_eq, nf_eq, meet_N', meet_P', meet_S', meet_Z', meet_B', meet_O', n_1, n_2, n_3, n_4, n_5, n_10, n_11]
      · show fX10_check_L138 r l1 (nI w) (nI x) (nI p) = _
        unfold fX10_check_L138
        simp (disch := omega) only [hVp, hv, Option.bind_some, aI_n, aL_n, aQ_n, sA_n, sL_n, csA_n, i_0, i_1, i_2, i_3, i_4, i_5, i_6, i_7, i_8, i_9, i_10, i_11, i_12, i_13, i_16, i_20, i_21, i_22, i_31, i_99, i_100, i_256, i_1000, nI_eq, nI_leI, nI_ltI, nI_add, pk_mul, ↓reduceIte, nt_le, nf_le, nt_lt, nf_lt, nt_eq, nf_eq, meet_N', meet_P', meet_S', meet_Z', meet_B', meet_O', n_1, n_2, n_3, n_4, n_5, n_10, n_11]
    rcases t1 p hp with ⟨j, hj, ej⟩ | v | v
    · left
      have lk := lf_look (V := V) (p := p) (show j < 8 by omega) ej
      have el := EE_look hp lk
      rw [el] at a1
      have p1 : p + 1 < w := by
        rcases Nat.lt_or_ge (p + 1) w with q | q
        · exact q
        · rw [EE_n q (by omega)] at a1; cases a1
      obtain ⟨z6, e1, b1, b2⟩ := t4 (p + 1) p1
      rw [b1] at a1
      have a1' : EE (lfV V) w e1 1 = some e := a1
      have e1w : e1 < w := by
        rcases Nat.lt_or_ge e1 w with q | q
        · exact q
        · rw [EE_n q (by omega)] at a1'; cases a1'
      have r1 := (EE_r (lf := lfV V) (w := w) (w - (p + 1)) (p + 1) 1 e1 rfl b1).2 (by omega)
      have bl := bt_lt x j
      have bh := behind_n (r := r) (p := p + 1) hw (by omega) hV
      rw [b1] at bh
      have bh' : fX10_behind r (nI (p + 1)) (nI w) = some (nI e1) := bh
      rcases (show bt x j = 0 ∨ bt x j = 1 by omega) with bb | bb
      · refine ⟨(nI (p + 1), nI (k + 1)), nI (p + 1), ?_, ?_, ⟨p + 1, k + 1, p1, by omega, rfl, rfl⟩, ?_⟩
        · show fX5_walk_12_L4 o y (nI x) (nI p) (nI k) = _
          unfold fX5_walk_12_L4 fX5_isLook_12 fX5_branch_12
          simp (disch := omega) only [t3, y6, ej, bitB (show x < 2 ^ 31 by omega) (show j < 32 by omega), bb, Option.bind_some, aI_n, aL_n, aQ_n, sA_n, sL_n, csA_n, i_0, i_1, i_2, i_3, i_4, i_5, i_6, i_7, i_8, i_9, i_10, i_11, i_12, i_13, i_16, i_20, i_21, i_22, i_31, i_99, i_100, i_256, i_1000, nI_eq, nI_leI, nI_ltI, nI_add, pk_mul, ↓reduceIte, nt_le, nf_le, nt_lt, nf_lt, nt_eq, nf_eq, meet_N', meet_P', meet_S', meet_Z', meet_B', meet_O', n_1, n_2, n_3, n_4, n_5, n_10, n_11]
        · show fX10_check_L138 r l1 (nI w) (nI x) (nI p) = _
          unfold fX10_check_L138 fX10_check_L138_J181
          simp (disch := omega) only [hVp, ej, bitB (show x < 2 ^ 31 by omega) (show j < 32 by omega), bb, Option.bind_some, aI_n, aL_n, aQ_n, sA_n, sL_n, csA_n, i_0, i_1, i_2, i_3, i_4, i_5, i_6, i_7, i_8, i_9, i_10, i_11, i_12, i_13, i_16, i_20, i_21, i_22, i_31, i_99, i_100, i_256, i_1000, nI_eq, nI_leI, nI_ltI, nI_add, pk_mul, ↓reduceIte, nt_le, nf_le, nt_lt, nf_lt, nt_eq, nf_eq, meet_N', meet_P', meet_S', meet_Z', meet_B', meet_O', n_1, n_2, n_3, n_4, n_5, n_10, n_11]
        · show 1000 - (nI (p + 1)).toNatClampNeg < 1000 - (nI p).toNatClampNeg
          rw [nI_clamp (by omega), nI_clamp (by omega)]
          omega
      · refine ⟨(nI e1, nI (k + 1)), nI e1, ?_, ?_, ⟨e1, k + 1, e1w, by omega, rfl, rfl⟩, ?_⟩
        · show fX5_walk_12_L4 o y (nI x) (nI p) (nI k) = _
          unfold fX5_walk_12_L4 fX5_isLook_12 fX5_branch_12
          simp (disch := omega) only [t3, y6, ej, bitB (show x < 2 ^ 31 by omega) (show j < 32 by omega), bb, b2, Option.bind_some, aI_n, aL_n, aQ_n, sA_n, sL_n, csA_n, i_0, i_1, i_2, i_3, i_4, i_5, i_6, i_7, i_8, i_9, i_10, i_11, i_12, i_13, i_16, i_20, i_21, i_22, i_31, i_99, i_100, i_256, i_1000, nI_eq, nI_leI, nI_ltI, nI_add, pk_mul, ↓reduceIte, nt_le, nf_le, nt_lt, nf_lt, nt_eq, nf_eq, meet_N', meet_P', meet_S', meet_Z', meet_B', meet_O', n_1, n_2, n_3, n_4, n_5, n_10, n_11]
        · show fX10_check_L138 r l1 (nI w) (nI x) (nI p) = _
          unfold fX10_check_L138 fX10_check_L138_J181
          simp (disch := omega) only [hVp, ej, bitB (show x < 2 ^ 31 by omega) (show j < 32 by omega), bb, bh', Option.bind_some, aI_n, aL_n, aQ_n, sA_n, sL_n, csA_n, i_0, i_1, i_2, i_3, i_4, i_5, i_6, i_7, i_8, i_9, i_10, i_11, i_12, i_13, i_16, i_20, i_21, i_22, i_31, i_99, i_100, i_256, i_1000, nI_eq, nI_leI, nI_ltI, nI_add, pk_mul, ↓reduceIte, nt_le, nf_le, nt_lt, nf_lt, nt_eq, nf_eq, meet_N', meet_P', meet_S', meet_Z', meet_B', meet_O', n_1, n_2, n_3, n_4, n_5, n_10, n_11]
        · show 1000 - (nI e1).toNatClampNeg < 1000 - (nI p).toNatClampNeg
          rw [nI_clamp (by omega), nI_clamp (by omega)]
          omega
    · exact leaf 0 (by omega) v
    · exact leaf 1 (by omega) v
/-- the least input that a told tree misses -/
theorem miss_n {o : Nat} {y : CS} {r : RS} {q k w n b : Nat} {kd wt : Int32} {g : Nat → Nat} {V : Nat → Int32} {f : Nat → Int32} (hw : w ≤ 100) (n8 : n ≤ 8) (hk : k < 8) (hT : TT w n V y) (hV : ∀ k, k < w → r.2.1 7 k = V k) (d1 : dT y q = some (kd, nI n, wt, some b)) (u2 : dB y b = some (2 ^ n, f)) (u3 : ∀ x, f x = nI (g x)) (hg : ∀ x, g x ≤ 2) (t2 : TkR r k n kd wt g) : (fX9_leastMiss o y q = some (-nI 1) ∧ lpN (fun u => fX10_check_L125 r (nI k) (nI w) u) bigN (nI 0) = some (.inl ())) ∨ ∃ x, x < 256 ∧ fX9_leastMiss o y q = some (nI x) ∧ lpN (fun u => fX10_check_L125 r (nI k) (nI w) u) bigN (nI 0) = some (.inr (nI (1 + x), r)) := by
  have p2 := p2le n8
  obtain ⟨y2, y3⟩ := rd_f u2 u3 n8
  have acc : ∀ x, ∃ B, x < 2 ^ n → B ≤ 1 ∧ ∃ k' p, k' ≤ 100 ∧ p < w ∧ V p = nI (20 + B) ∧ fX5_walk_12 o y (nI x) = some (nI (B + 10 * k')) ∧ lpN (fun u => fX10_check_L138 r (nI k) (nI w) (nI x) u) bigN (nI 0) = some (nI p) := by
    intro x
    by_cases hx : x < 2 ^ n
    · obtain ⟨B, k', p, a1, a2, a3, a4, a5, a6⟩ := walk_n (o := o) (l1 := nI k) hw n8 (show x < 256 by omega) hT hV
      exact ⟨B, fun _ => ⟨a1, k', p, a2, a3, a4, a5, a6⟩⟩
    · exact ⟨0, fun w => absurd w hx⟩
  obtain ⟨B, hB⟩ := Classical.axiomOfChoice acc
  have sy := fun x (hx : x < 2 ^ n) => say0_n (show k < 16 by omega) t2 n8 hx
  have H1 := lp_find (body := fun u => fX9_leastMiss_L2 o y q u) (fun i => nI i) (2 ^ n) (fun x => g x ≠ 2 ∧ g x ≠ B x) (fun x e => e = .inr (nI x)) (en := .inl ()) (bigN_gt (by omega)) (fun i hi hP => ?_) (fun i hi hP => ?_) ?_
  · have H2 := lp_find (body := fun u => fX10_check_L125 r (nI k) (nI w) u) (fun i => nI i) (2 ^ n) (fun x => g x ≠ 2 ∧ g x ≠ B x) (fun x e => e = .inr (nI (1 + x), r)) (en := .inl ()) (bigN_gt (by omega)) (fun i hi hP => ?_) (fun i hi hP => ?_) ?_
    · unfold fX9_leastMiss
      rcases H1 with ⟨a1, a2⟩ | ⟨i, e, a1, a2, a3, rfl, a4⟩
      · rcases H2 with ⟨c1, c2⟩ | ⟨i', e', c1, c2, c3, rfl, c4⟩
        · exact Or.inl ⟨(congrArg (fun u => u.bind fun e11 => sel e11 (fun _ => some (-1 : Int32)) (fun rt => some rt)) a1).trans rfl, c1⟩
        · exact absurd c2 (a2 i' c1)
      · rcases H2 with ⟨c1, c2⟩ | ⟨i', e', c1, c2, c3, rfl, c4⟩
        · exact absurd a2 (c2 i a1)
        · have : i = i' := by
            rcases Nat.lt_trichotomy i i' with q | q | q
            · exact absurd a2 (c3 i q)
            · exact q
            · exact absurd c2 (a3 i' q)
          subst this
          exact Or.inr ⟨i, by omega, (congrArg (fun u => u.bind fun e11 => sel e11 (fun _ => some (-1 : Int32)) (fun rt => some rt)) a4).trans rfl, c4⟩
    · obtain ⟨b1, k', p, b2, b3, b4, b5, b6⟩ := hB i hi
      have hVp := hV p b3
      have gl := hg i
      unfold fX10_check_L125 fX10_check_L125_J222
      by_cases g2 : g i = 2
      · simp (disch := omega) only [inputs_n (show k < 16 by omega) t2.1 n8, b6, sy i hi, g2, Option.bind_some, aI_n, aL_n, aQ_n, sA_n, sL_n, csA_n, i_0, i_1, i_2, i_3, i_4, i_5, i_6, i_7, i_8, i_9, i_10, i_11, i_12, i_13, i_16, i_20, i_21, i_22, i_31, i_99, i_100, i_256, i_1000, nI_eq, nI_leI, nI_ltI, nI_add, pk_mul, ↓reduceIte, nt_le, nf_le, nt_lt, nf_lt, nt_eq, nf_eq, meet_N', meet_P', meet_S', meet_Z', meet_B', meet_O', n_1, n_2, n_3, n_4, n_5, n_10, n_11]
      · have gB : g i = B i := by
          by_cases q : g i = B i
          · exact q
          · exact absurd ⟨g2, q⟩ hP
        simp (disch := omega) only [inputs_n (show k < 16 by omega) t2.1 n8, b6, sy i hi, hVp, b4, pk_sub, Option.bind_some, aI_n, aL_n, aQ_n, sA_n, sL_n, csA_n, i_0, i_1, i_2, i_3, i_4, i_5, i_6, i_7, i_8, i_9, i_10, i_11, i_12, i_13, i_16, i_20, i_21, i_22, i_31, i_99, i_100, i_256, i_1000, nI_eq, nI_leI, nI_ltI, nI_add, pk_mul, ↓reduceIte, nt_le, nf_le, nt_lt, nf_lt, nt_eq, nf_eq, meet_N', meet_P', meet_S', meet_Z', meet_B', meet_O', n_1, n_2, n_3, n_4, n_5, n_10, n_11]
    · obtain ⟨b1, k', p, b2, b3, b4, b5, b6⟩ := hB i hi
      have hVp := hV p b3
      have gl := hg i
      have gl1 := hP.1
      have gl2 := hP.2
      refine ⟨_, ?_, rfl⟩
      unfold fX10_check_L125
      simp (disch := omega) only [inputs_n (show k < 16 by omega) t2.1 n8, b6, sy i hi, hVp, b4, pk_sub, Option.bind_some, aI_n, aL_n, aQ_n, sA_n, sL_n, csA_n, i_0, i_1, i_2, i_3, i_4, i_5, i_6, i_7, i_8, i_9, i_10, i_11, i_12, i_13, i_16, i_20, i_21, i_22, i_31, i_99, i_100, i_256, i_1000, nI_eq, nI_leI, nI_ltI, nI_add, pk_mul, ↓reduceIte, nt_le, nf_le, nt_lt, nf_lt, nt_eq, nf_eq, meet_N', meet_P', meet_S', meet_Z', meet_B', meet_O', n_1, n_2, n_3, n_4, n_5, n_10, n_11]
    · unfold fX10_check_L125
      simp (disch := omega) only [inputs_n (show k < 16 by omega) t2.1 n8, Option.bind_some, aI_n, aL_n, aQ_n, sA_n, sL_n, csA_n, i_0, i_1, i_2, i_3, i_4, i_5, i_6, i_7, i_8, i_9, i_10, i_11, i_12, i_13, i_16, i_20, i_21, i_22, i_31, i_99, i_100, i_256, i_1000, nI_eq, nI_leI, nI_ltI, nI_add, pk_mul, ↓reduceIte, nt_le, nf_le, nt_lt, nf_lt, nt_eq, nf_eq, meet_N', meet_P', meet_S', meet_Z', meet_B', meet_O', n_1, n_2, n_3, n_4, n_5, n_10, n_11]
  · obtain ⟨b1, k', p, b2, b3, b4, b5, b6⟩ := hB i hi
    have gl := hg i
    unfold fX9_leastMiss_L2 fX9_leastMiss_L2_J43
    by_cases g2 : g i = 2
    · simp (disch := omega) only [d1, y2, y3 i hi, g2, Option.bind_some, aI_n, aL_n, aQ_n, sA_n, sL_n, csA_n, i_0, i_1, i_2, i_3, i_4, i_5, i_6, i_7, i_8, i_9, i_10, i_11, i_12, i_13, i_16, i_20, i_21, i_22, i_31, i_99, i_100, i_256, i_1000, nI_eq, nI_leI, nI_ltI, nI_add, pk_mul, ↓reduceIte, nt_le, nf_le, nt_lt, nf_lt, nt_eq, nf_eq, meet_N', meet_P', meet_S', meet_Z', meet_B', meet_O', n_1, n_2, n_3, n_4, n_5, n_10, n_11]
    · have gB : g i = B i := by
        by_cases q : g i = B i
        · exact q
        · exact absurd ⟨g2, q⟩ hP
      simp (disch := omega) only [d1, y2, y3 i hi, b5, rem10, Option.bind_some, aI_n, aL_n, aQ_n, sA_n, sL_n, csA_n, i_0, i_1, i_2, i_3, i_4, i_5, i_6, i_7, i_8, i_9, i_10, i_11, i_12, i_13, i_16, i_20, i_21, i_22, i_31, i_99, i_100, i_256, i_1000, nI_eq, nI_leI, nI_ltI, nI_add, pk_mul, ↓reduceIte, nt_le, nf_le, nt_lt, nf_lt, nt_eq, nf_eq, meet_N', meet_P', meet_S', meet_Z', meet_B', meet_O', n_1, n_2, n_3, n_4, n_5, n_10, n_11]
  · obtain ⟨b1, k', p, b2, b3, b4, b5, b6⟩ := hB i hi
    have gl := hg i
    have gl1 := hP.1
    have gl2 := hP.2
    refine ⟨_, ?_, rfl⟩
    unfold fX9_leastMiss_L2
    simp (disch := omega) only [d1, y2, y3 i hi, b5, rem10, Option.bind_some, aI_n, aL_n, aQ_n, sA_n, sL_n, csA_n, i_0, i_1, i_2, i_3, i_4, i_5, i_6, i_7, i_8, i_9, i_10, i_11, i_12, i_13, i_16, i_20, i_21, i_22, i_31, i_99, i_100, i_256, i_1000, nI_eq, nI_leI, nI_ltI, nI_add, pk_mul, ↓reduceIte, nt_le, nf_le, nt_lt, nf_lt, nt_eq, nf_eq, meet_N', meet_P', meet_S', meet_Z', meet_B', meet_O', n_1, n_2, n_3, n_4, n_5, n_10, n_11]
  · unfold fX9_leastMiss_L2
    simp (disch := omega) only [d1, y2, Option.bind_some, aI_n, aL_n, aQ_n, sA_n, sL_n, csA_n, i_0, i_1, i_2, i_3, i_4, i_5, i_6, i_7, i_8, i_9, i_10, i_11, i_12, i_13, i_16, i_20, i_21, i_22, i_31, i_99, i_100, i_256, i_1000, nI_eq, nI_leI, nI_ltI, nI_add, pk_mul, ↓reduceIte, nt_le, nf_le, nt_lt, nf_lt, nt_eq, nf_eq, meet_N', meet_P', meet_S', meet_Z', meet_B', meet_O', n_1, n_2, n_3, n_4, n_5, n_10, n_11]
theorem flag_n {r : RS} {w k n : Nat} {V : Nat → Int32} (hw : w ≤ 100) (hk : k < 8) (n8 : n ≤ 8) (h0 : r.2.1 0 k = nI n) (hV : ∀ k, k < w → r.2.1 7 k = V k) : ∃ v, v ≤ 1 ∧ lpN (fun u => fX10_check_L32 r (nI k) (nI w) u.1 u.2) bigN (nI 1, nI 0) = some (nI v) ∧ (v = 1 ↔ ∀ p, p < w → OkV n (V p)) := by
  have HH := lp_count (body := fun u => fX10_check_L32 r (nI k) (nI w) u.1 u.2) (fun i st => ∃ v, st = (nI v, nI i) ∧ v ≤ 1 ∧ (v = 1 ↔ ∀ p, p < i → OkV n (V p))) w (fun e => ∃ v, e = nI v ∧ v ≤ 1 ∧ (v = 1 ↔ ∀ p, p < w → OkV n (V p))) (bigN_gt (by omega)) (fun i st hi hst => ?_) (fun st hst => ?_) (s := (nI 1, nI 0)) ⟨1, rfl, Nat.le_refl _, fun _ p hp => by omega, fun _ => rfl⟩
  · obtain ⟨e, e1, v, rfl, e2, e3⟩ := HH
    exact ⟨v, e2, e1, e3⟩
  · obtain ⟨v, rfl, h1, h2⟩ := hst
    have hVi := hV i hi
    have a1 : v &&& 1 = v := by rcases (show v = 0 ∨ v = 1 by omega) with rfl | rfl <;> rfl
    have good : OkV n (V i) → ∃ v', (nI v, nI (i + 1)) = (nI v', nI (i + 1)) ∧ v' ≤ 1 ∧ (v' = 1 ↔ ∀ p, p < i + 1 → OkV n (V p)) := fun ok => ⟨v, rfl, h1, fun q p hp => by
      by_cases e : p = i
      · rw [e]; exact ok
      · exact (h2.mp q) p (by omega), fun q => h2.mpr (fun p hp => q p (by omega))⟩
    unfold fX10_check_L32 fX10_check_L32_J66 fX10_check_L32_J90 fX10_check_L32_J95
    rcases ix (V i) (n := n) (by omega) with hx | ⟨j, hj, ej⟩
    · by_cases v20 : V i = nI 20
      · refine ⟨(nI v, nI (i + 1)), ?_, good (Or.inr (Or.inl v20))⟩
        simp (disch := omega) only [hVi, v20, h0, nI_and, a1, Option.bind_some, aI_n, aL_n, aQ_n, sA_n, sL_n, csA_n, i_0, i_1, i_2, i_3, i_4, i_5, i_6, i_7, i_8, i_9, i_10, i_11, i_12, i_13, i_16, i_20, i_21, i_22, i_31, i_99, i_100, i_256, i_1000, nI_eq, nI_leI, nI_ltI, nI_add, pk_mul, ↓reduceIte, nt_le, nf_le, nt_lt, nf_lt, nt_eq, nf_eq, meet_N', meet_P', meet_S', meet_Z', meet_B', meet_O', n_1, n_2, n_3, n_4, n_5, n_10, n_11]
      · by_cases v21 : V i = nI 21
        · refine ⟨(nI v, nI (i + 1)), ?_, good (Or.inr (Or.inr v21))⟩
          simp (disch := omega) only [hVi, v21, h0, nI_and, a1, Option.bind_some, aI_n, aL_n, aQ_n, sA_n, sL_n, csA_n, i_0, i_1, i_2, i_3, i_4, i_5, i_6, i_7, i_8, i_9, i_10, i_11, i_12, i_13, i_16, i_20, i_21, i_22, i_31, i_99, i_100, i_256, i_1000, nI_eq, nI_leI, nI_ltI, nI_add, pk_mul, ↓reduceIte, nt_le, nf_le, nt_lt, nf_lt, nt_eq, nf_eq, meet_N', meet_P', meet_S', meet_Z', meet_B', meet_O', n_1, n_2, n_3, n_4, n_5, n_10, n_11]
        · refine ⟨(nI 0, nI (i + 1)), ?_, 0, rfl, by omega, fun q => by omega, fun q => ?_⟩
          · by_cases q : V i < nI 0
            · simp (disch := omega) only [hVi, q, v20, v21, nI_and, Nat.and_zero, Option.bind_some, aI_n, aL_n, aQ_n, sA_n, sL_n, csA_n, i_0, i_1, i_2, i_3, i_4, i_5, i_6, i_7, i_8, i_9, i_10, i_11, i_12, i_13, i_16, i_20, i_21, i_22, i_31, i_99, i_100, i_256, i_1000, nI_eq, nI_leI, nI_ltI, nI_add, pk_mul, ↓reduceIte, nt_le, nf_le, nt_lt, nf_lt, nt_eq, nf_eq, meet_N', meet_P', meet_S', meet_Z', meet_B', meet_O', n_1, n_2, n_3, n_4, n_5, n_10, n_11]
            · have c : ¬ V i < nI n := ge_nlt (by omega) (hx.resolve_left q)
              simp (disch := omega) only [hVi, q, h0, c, v20, v21, nI_and, Nat.and_zero, Option.bind_some, aI_n, aL_n, aQ_n, sA_n, sL_n, csA_n, i_0, i_1, i_2, i_3, i_4, i_5, i_6, i_7, i_8, i_9, i_10, i_11, i_12, i_13, i_16, i_20, i_21, i_22, i_31, i_99, i_100, i_256, i_1000, nI_eq, nI_leI, nI_ltI, nI_add, pk_mul, ↓reduceIte, nt_le, nf_le, nt_lt, nf_lt, nt_eq, nf_eq, meet_N', meet_P', meet_S', meet_Z', meet_B', meet_O', n_1, n_2, n_3, n_4, n_5, n_10, n_11]
          · exfalso
            rcases q i (by omega) with ⟨j, hj, e⟩ | e | e
            · rw [e] at hx
              rcases hx with a | a
              · exact nI_nlt0 (by omega) a
              · exact nI_ge hj (by omega) a
            · exact v20 e
            · exact v21 e
    · refine ⟨(nI v, nI (i + 1)), ?_, good (Or.inl ⟨j, hj, ej⟩)⟩
      simp (disch := omega) only [hVi, ej, h0, nI_and, a1, Option.bind_some, aI_n, aL_n, aQ_n, sA_n, sL_n, csA_n, i_0, i_1, i_2, i_3, i_4, i_5, i_6, i_7, i_8, i_9, i_10, i_11, i_12, i_13, i_16, i_20, i_21, i_22, i_31, i_99, i_100, i_256, i_1000, nI_eq, nI_leI, nI_ltI, nI_add, pk_mul, ↓reduceIte, nt_le, nf_le, nt_lt, nf_lt, nt_eq, nf_eq, meet_N', meet_P', meet_S', meet_Z', meet_B', meet_O', n_1, n_2, n_3, n_4, n_5, n_10, n_11]
  · obtain ⟨v, rfl, h1, h2⟩ := hst
    refine ⟨nI v, ?_, v, rfl, h1, h2⟩
    unfold fX10_check_L32
    simp (disch := omega) only [Option.bind_some, aI_n, aL_n, aQ_n, sA_n, sL_n, csA_n, i_0, i_1, i_2, i_3, i_4, i_5, i_6, i_7, i_8, i_9, i_10, i_11, i_12, i_13, i_16, i_20, i_21, i_22, i_31, i_99, i_100, i_256, i_1000, nI_eq, nI_leI, nI_ltI, nI_add, pk_mul, ↓reduceIte, nt_le, nf_le, nt_lt, nf_lt, nt_eq, nf_eq, meet_N', meet_P', meet_S', meet_Z', meet_B', meet_O', n_1, n_2, n_3, n_4, n_5, n_10, n_11]
theorem St_check_ok : St_check Sim := by
  intro o z r a1 h
  obtain ⟨h1, h2, h3, h4, ⟨w, hw, w1, w2, w3⟩, -⟩ := id h
  have hs0 := Sim_w0 h
  unfold fX9_check fX9_check_J51 fX9_check_J52 fX10_check fX10_check_J119
  rcases plc h3 a1 with hx | ⟨k, hk, rfl, e, e'⟩ | ⟨k, q, n, kd, wt, g, b, hk, rfl, e, t1, t2, n1, n8, hg, d1, d2, d3, p2, p1⟩
  · refine ⟨(-nI 2, cI z 1 (nI 0)), (-nI 2, rI r 1 (nI 0)), ?_, ?_, rfl, hs0⟩
    · simp (disch := omega) only [find9_out hx, Option.bind_some, aI_n, aL_n, aQ_n, sA_n, sL_n, csA_n, i_0, i_1, i_2, i_3, i_4, i_5, i_6, i_7, i_8, i_9, i_10, i_11, i_12, i_13, i_16, i_20, i_21, i_22, i_31, i_99, i_100, i_256, i_1000, nI_eq, nI_leI, nI_ltI, nI_add, pk_mul, ↓reduceIte, nt_le, nf_le, nt_lt, nf_lt, nt_eq, nf_eq, meet_N', meet_P', meet_S', meet_Z', meet_B', meet_O', n_1, n_2, n_3, n_4, n_5, n_10, n_11]
    · simp (disch := omega) only [askP_out (r := rI r 1 (nI 0)) hx, Option.bind_some, aI_n, aL_n, aQ_n, sA_n, sL_n, csA_n, i_0, i_1, i_2, i_3, i_4, i_5, i_6, i_7, i_8, i_9, i_10, i_11, i_12, i_13, i_16, i_20, i_21, i_22, i_31, i_99, i_100, i_256, i_1000, nI_eq, nI_leI, nI_ltI, nI_add, pk_mul, ↓reduceIte, nt_le, nf_le, nt_lt, nf_lt, nt_eq, nf_eq, meet_N', meet_P', meet_S', meet_Z', meet_B', meet_O', n_1, n_2, n_3, n_4, n_5, n_10, n_11]
  · refine ⟨(-nI 10, _), (-nI 10, _), ?_, ?_, rfl, Sim_met0 h⟩
    · simp (disch := omega) only [find9_no hk e, Option.bind_some, aI_n, aL_n, aQ_n, sA_n, sL_n, csA_n, i_0, i_1, i_2, i_3, i_4, i_5, i_6, i_7, i_8, i_9, i_10, i_11, i_12, i_13, i_16, i_20, i_21, i_22, i_31, i_99, i_100, i_256, i_1000, nI_eq, nI_leI, nI_ltI, nI_add, pk_mul, ↓reduceIte, nt_le, nf_le, nt_lt, nf_lt, nt_eq, nf_eq, meet_N', meet_P', meet_S', meet_Z', meet_B', meet_O', n_1, n_2, n_3, n_4, n_5, n_10, n_11] <;> rfl
    · simp (disch := omega) only [askP_no (r := rI r 1 (nI 0)) hk e', Option.bind_some, aI_n, aL_n, aQ_n, sA_n, sL_n, csA_n, i_0, i_1, i_2, i_3, i_4, i_5, i_6, i_7, i_8, i_9, i_10, i_11, i_12, i_13, i_16, i_20, i_21, i_22, i_31, i_99, i_100, i_256, i_1000, nI_eq, nI_leI, nI_ltI, nI_add, pk_mul, ↓reduceIte, nt_le, nf_le, nt_lt, nf_lt, nt_eq, nf_eq, meet_N', meet_P', meet_S', meet_Z', meet_B', meet_O', n_1, n_2, n_3, n_4, n_5, n_10, n_11] <;> rfl
  · have hV0 : ∀ k, k < w → (rI r 1 (nI 0)).2.1 7 k = z.2.1 0 k := fun k hk => (w3 k hk).symm
    have t2' : TkR (rI r 1 (nI 0)) k n kd wt g := t2
    obtain ⟨b0, z', pb, p3', p4, p5, p6⟩ := parse_n (o := o) (z := z) (V := z.2.1 0) hw n8 (fun _ _ => rfl)
    obtain ⟨v, v1, v2, v3⟩ := flag_n (r := rI r 1 (nI 0)) (V := z.2.1 0) hw hk n8 t2'.1 hV0
    have bh := behind_n (r := rI r 1 (nI 0)) (p := 0) (V := z.2.1 0) hw (Nat.zero_le _) hV0
    have ak := askP_yes (r := rI r 1 (nI 0)) hk t2'.1 n1 n8
    have hsT : Sim o (cI z' 1 (nI 0)) (rI r 1 (nI 0)) := by
      have := Sim_w0 (Sim_zt h p4)
      exact this
    rcases (show b0 = 0 ∨ b0 = 1 by omega) with rfl | rfl
    · have bad := p6 rfl
      refine ⟨(-nI 3, cI z' 1 (nI 0)), (-nI 3, rI r 1 (nI 0)), ?_, ?_, rfl, hsT⟩
      · simp (disch := omega) only [find9_yes hk e, e, d1, w1, p3', Option.bind_some, aI_n, aL_n, aQ_n, sA_n, sL_n, csA_n, i_0, i_1, i_2, i_3, i_4, i_5, i_6, i_7, i_8, i_9, i_10, i_11, i_12, i_13, i_16, i_20, i_21, i_22, i_31, i_99, i_100, i_256, i_1000, nI_eq, nI_leI, nI_ltI, nI_add, pk_mul, ↓reduceIte, nt_le, nf_le, nt_lt, nf_lt, nt_eq, nf_eq, meet_N', meet_P', meet_S', meet_Z', meet_B', meet_O', n_1, n_2, n_3, n_4, n_5, n_10, n_11]
      · by_cases c : v = 1
        · subst c
          have ok := v3.mp rfl
          have ne : ¬ EE (lfV (z.2.1 0)) w 0 1 = some w := fun q => bad ⟨ok, q⟩
          cases ee : EE (lfV (z.2.1 0)) w 0 1 with
          | none =>
            rw [ee] at bh
            have bh' : fX10_behind (rI r 1 (nI 0)) (nI 0) (nI w) = some (nI (w + 1)) := bh
            simp (disch := omega) only [ak, w2, v2, bh', Option.bind_some, aI_n, aL_n, aQ_n, sA_n, sL_n, csA_n, i_0, i_1, i_2, i_3, i_4, i_5, i_6, i_7, i_8, i_9, i_10, i_11, i_12, i_13, i_16, i_20, i_21, i_22, i_31, i_99, i_100, i_256, i_1000, nI_eq, nI_leI, nI_ltI, nI_add, pk_mul, ↓reduceIte, nt_le, nf_le, nt_lt, nf_lt, nt_eq, nf_eq, meet_N', meet_P', meet_S', meet_Z', meet_B', meet_O', n_1, n_2, n_3, n_4, n_5, n_10, n_11]
          | some q0 =>
            rw [ee] at bh ne
            have bh' : fX10_behind (rI r 1 (nI 0)) (nI 0) (nI w) = some (nI q0) := bh
            have r0 := (EE_r (lf := lfV (z.2.1 0)) (w := w) w 0 1 q0 (by omega) ee).2 (by omega)
            have : q0 ≠ w := fun q => ne (by rw [q])
            simp (disch := omega) only [ak, w2, v2, bh', Option.bind_some, aI_n, aL_n, aQ_n, sA_n, sL_n, csA_n, i_0, i_1, i_2, i_3, i_4, i_5, i_6, i_7, i_8, i_9, i_10, i_11, i_12, i_13, i_16, i_20, i_21, i_22, i_31, i_99, i_100, i_256, i_1000, nI_eq, nI_leI, nI_ltI, nI_add, pk_mul, ↓reduceIte, nt_le, nf_le, nt_lt, nf_lt, nt_eq, nf_eq, meet_N', meet_P', meet_S', meet_Z', meet_B', meet_O', n_1, n_2, n_3, n_4, n_5, n_10, n_11]
        · have c0 : v = 0 := by omega
          subst c0
          simp (disch := omega) only [ak, w2, v2, Option.bind_some, aI_n, aL_n, aQ_n, sA_n, sL_n, csA_n, i_0, i_1, i_2, i_3, i_4, i_5, i_6, i_7, i_8, i_9, i_10, i_11, i_12, i_13, i_16, i_20, i_21, i_22, i_31, i_99, i_100, i_256, i_1000, nI_eq, nI_leI, nI_ltI, nI_add, pk_mul, ↓reduceIte, nt_le, nf_le, nt_lt, nf_lt, nt_eq, nf_eq, meet_N', meet_P', meet_S', meet_Z', meet_B', meet_O', n_1, n_2, n_3, n_4, n_5, n_10, n_11]
    · obtain ⟨ok, ew, y7, yy⟩ := p5 rfl
      obtain ⟨f, u2, u3⟩ := TkB t1 d1
      have dz : dT z' q = some (kd, nI n, wt, some b) := by
        have : dT z' q = dT z q := by unfold dT cpl; rw [p4.2.2]
        rw [this]; exact d1
      have db : dB z' b = some (2 ^ n, f) := by
        have : dB z' b = dB z b := by unfold dB cpl; rw [p4.2.2]
        rw [this]; exact u2
      have v11 : v = 1 := v3.mpr ok
      subst v11
      rw [ew] at bh
      have bh' : fX10_behind (rI r 1 (nI 0)) (nI 0) (nI w) = some (nI w) := bh
      rcases miss_n (o := o) (y := z') (r := rI r 1 (nI 0)) (k := k) hw n8 hk ⟨ok, ew, y7, yy⟩ hV0 dz db u3 hg t2' with ⟨m1, m2⟩ | ⟨x, m0, m1, m2⟩
      · refine ⟨(nI 0, cI z' 1 (nI 0)), (nI 0, rI r 1 (nI 0)), ?_, ?_, rfl, hsT⟩
        · simp (disch := omega) only [find9_yes hk e, e, d1, w1, p3', m1, Option.bind_some, aI_n, aL_n, aQ_n, sA_n, sL_n, csA_n, i_0, i_1, i_2, i_3, i_4, i_5, i_6, i_7, i_8, i_9, i_10, i_11, i_12, i_13, i_16, i_20, i_21, i_22, i_31, i_99, i_100, i_256, i_1000, nI_eq, nI_leI, nI_ltI, nI_add, pk_mul, ↓reduceIte, nt_le, nf_le, nt_lt, nf_lt, nt_eq, nf_eq, meet_N', meet_P', meet_S', meet_Z', meet_B', meet_O', n_1, n_2, n_3, n_4, n_5, n_10, n_11]
          rfl
        · simp (disch := omega) only [ak, w2, v2, bh', m2, sel, Option.bind_some, aI_n, aL_n, aQ_n, sA_n, sL_n, csA_n, i_0, i_1, i_2, i_3, i_4, i_5, i_6, i_7, i_8, i_9, i_10, i_11, i_12, i_13, i_16, i_20, i_21, i_22, i_31, i_99, i_100, i_256, i_1000, nI_eq, nI_leI, nI_ltI, nI_add, pk_mul, ↓reduceIte, nt_le, nf_le, nt_lt, nf_lt, nt_eq, nf_eq, meet_N', meet_P', meet_S', meet_Z', meet_B', meet_O', n_1, n_2, n_3, n_4, n_5, n_10, n_11]
      · refine ⟨(nI (x + 1), cI z' 1 (nI 0)), (nI (1 + x), rI r 1 (nI 0)), ?_, ?_, by show nI (x + 1) = nI (1 + x); rw [Nat.add_comm], hsT⟩
        · simp (disch := omega) only [find9_yes hk e, e, d1, w1, p3', m1, Option.bind_some, aI_n, aL_n, aQ_n, sA_n, sL_n, csA_n, i_0, i_1, i_2, i_3, i_4, i_5, i_6, i_7, i_8, i_9, i_10, i_11, i_12, i_13, i_16, i_20, i_21, i_22, i_31, i_99, i_100, i_256, i_1000, nI_eq, nI_leI, nI_ltI, nI_add, pk_mul, ↓reduceIte, nt_le, nf_le, nt_lt, nf_lt, nt_eq, nf_eq, meet_N', meet_P', meet_S', meet_Z', meet_B', meet_O', n_1, n_2, n_3, n_4, n_5, n_10, n_11]
        · simp (disch := omega) only [ak, w2, v2, bh', m2, sel, Option.bind_some, aI_n, aL_n, aQ_n, sA_n, sL_n, csA_n, i_0, i_1, i_2, i_3, i_4, i_5, i_6, i_7, i_8, i_9, i_10, i_11, i_12, i_13, i_16, i_20, i_21, i_22, i_31, i_99, i_100, i_256, i_1000, nI_eq, nI_leI, nI_ltI, nI_add, pk_mul, ↓reduceIte, nt_le, nf_le, nt_lt, nf_lt, nt_eq, nf_eq, meet_N', meet_P', meet_S', meet_Z', meet_B', meet_O', n_1, n_2, n_3, n_4, n_5, n_10, n_11]
