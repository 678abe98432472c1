/-! ===== form: the class ===== -/
def ZF (z z' : CS) : Prop := (∀ k, k ≠ 9 → k ≠ 10 → z'.1 k = z.1 k) ∧ (∀ k, k ≠ 13 → k ≠ 14 → k ≠ 15 → z'.2.1 k = z.2.1 k) ∧ z'.2.2 = z.2.2
theorem ZF.rf {z : CS} : ZF z z := ⟨fun _ _ _ => rfl, fun _ _ _ _ => rfl, rfl⟩
theorem ZF.up {z z' : CS} {k i : Nat} {x : Int32} (h : ZF z z') (hk : k = 13 ∨ k = 14 ∨ k = 15) : ZF z (cAr z' k i x) := ⟨h.1, fun j a b c => by rw [cAr_n (by omega)]; exact h.2.1 j a b c, h.2.2⟩
theorem ZF.iu {z z' : CS} {k : Nat} {x : Int32} (h : ZF z z') (hk : k = 9 ∨ k = 10) : ZF z (cI z' k x) := ⟨fun j a b => by rw [cI_n (by omega)]; exact h.1 j a b, h.2.1, h.2.2⟩
theorem ZF_T {z z' : CS} {q : Nat} {t : Int32 × Int32 × Int32 × Option Nat} (h : ZF z z') (d : dT z q = some t) : dT z' q = some t := by
  have : dT z' q = dT z q := by unfold dT cpl; rw [h.2.2]
  rw [this]; exact d
theorem ZF_B {z z' : CS} {q : Nat} {t : Nat × (Nat → Int32)} (h : ZF z z') (d : dB z q = some t) : dB z' q = some t := by
  have : dB z' q = dB z q := by unfold dB cpl; rw [h.2.2]
  rw [this]; exact d
theorem isIn_n {n x c : Nat} (hn : n ≤ 4) (hx : x < 256) (hc : c < 81) : fX2_isIn (nI n) (nI x) (nI c) = some (nI (inB c x n)) := by
  have HH := lp_find (body := fun u => fX2_isIn_L5 (nI n) (nI x) u.1 u.2) (fun i => (nI (c / 3 ^ i), nI i)) n (fun i => ¬ (dg c i = 2 ∨ dg c i = bt x i)) (fun _ e => e = .inr (nI 0)) (en := .inl ()) (bigN_gt (by omega)) (fun i hi hP => ?_) (fun i hi hP => ?_) ?_
  · have e0 : (nI c, nI 0) = (nI (c / 3 ^ 0), nI 0) := by rw [Nat.pow_zero, Nat.div_one]
    unfold fX2_isIn
    show (lpN (fun u => fX2_isIn_L5 (nI n) (nI x) u.1 u.2) bigN (nI c, nI 0)).bind _ = _
    rw [e0]
    rcases HH with ⟨a1, a2⟩ | ⟨i, e, a1, a2, a3, rfl, a4⟩
    · have : inB c x n = 1 := (inB_in c x n).mpr (fun i hi => by
        by_cases q : dg c i = 2 ∨ dg c i = bt x i
        · exact q
        · exact absurd q (a2 i hi))
      rw [a1, this]
      rfl
    · have : inB c x n = 0 := by
        have l := inB_le c x n
        have : ¬ inB c x n = 1 := fun q => a2 ((inB_in c x n).mp q i a1)
        omega
      rw [a4, this]
      rfl
  · have e3 : c / 3 ^ i < 2 ^ 31 := by
      have : c / 3 ^ i ≤ c := Nat.div_le_self _ _
      omega
    have rr : nI (c / 3 ^ i) - nI (c / 3 ^ i) / (3 : Int32) * (3 : Int32) = nI (dg c i) := rem3 e3
    have hdl := dg_lt c i
    have bl := bt_lt x i
    have hP' : dg c i = 2 ∨ dg c i = bt x i := by
      by_cases q : dg c i = 2 ∨ dg c i = bt x i
      · exact q
      · exact absurd q hP
    unfold fX2_isIn_L5 fX2_isIn_L5_J35
    simp only [rr]
    by_cases d2 : dg c i = 2
    · simp (disch := omega) only [d2, div3 (show c < 6561 by omega), Option.bind_some, aI_n, aL_n, aQ_n, sA_n, sL_n, csA_n, i_0, i_1, i_2, i_3, i_4, i_5, i_6, i_7, i_8, i_9, i_10, i_11, i_12, i_13, i_16, i_20, i_21, i_22, i_31, i_99, i_100, i_256, i_1000, nI_eq, nI_leI, nI_ltI, nI_add, pk_mul, ↓reduceIte, nt_le, nf_le, nt_lt, nf_lt, nt_eq, nf_eq, meet_N', meet_P', meet_S', meet_Z', meet_B', meet_O', n_1, n_2, n_3, n_4, n_5, n_10, n_11]
    · have := hP'.resolve_left d2
      simp (disch := omega) only [bitB (show x < 2 ^ 31 by omega) (show i < 32 by omega), div3 (show c < 6561 by omega), Option.bind_some, aI_n, aL_n, aQ_n, sA_n, sL_n, csA_n, i_0, i_1, i_2, i_3, i_4, i_5, i_6, i_7, i_8, i_9, i_10, i_11, i_12, i_13, i_16, i_20, i_21, i_22, i_31, i_99, i_100, i_256, i_1000, nI_eq, nI_leI, nI_ltI, nI_add, pk_mul, ↓reduceIte, nt_le, nf_le, nt_lt, nf_lt, nt_eq, nf_eq, meet_N', meet_P', meet_S', meet_Z', meet_B', meet_O', n_1, n_2, n_3, n_4, n_5, n_10, n_11]
  · have e3 : c / 3 ^ i < 2 ^ 31 := by
      have : c / 3 ^ i ≤ c := Nat.div_le_self _ _
      omega
    have rr : nI (c / 3 ^ i) - nI (c / 3 ^ i) / (3 : Int32) * (3 : Int32) = nI (dg c i) := rem3 e3
    have hdl := dg_lt c i
    have bl := bt_lt x i
    have q1 : ¬ dg c i = 2 := fun q => hP (Or.inl q)
    have q2 : ¬ dg c i = bt x i := fun q => hP (Or.inr q)
    refine ⟨_, ?_, rfl⟩
    unfold fX2_isIn_L5
    simp only [rr]
    simp (disch := omega) only [bitB (show x < 2 ^ 31 by omega) (show i < 32 by omega), Option.bind_some, aI_n, aL_n, aQ_n, sA_n, sL_n, csA_n, i_0, i_1, i_2, i_3, i_4, i_5, i_6, i_7, i_8, i_9, i_10, i_11, i_12, i_13, i_16, i_20, i_21, i_22, i_31, i_99, i_100, i_256, i_1000, nI_eq, nI_leI, nI_ltI, nI_add, pk_mul, ↓reduceIte, nt_le, nf_le, nt_lt, nf_lt, nt_eq, nf_eq, meet_N', meet_P', meet_S', meet_Z', meet_B', meet_O', n_1, n_2, n_3, n_4, n_5, n_10, n_11]
  · unfold fX2_isIn_L5
    simp (disch := omega) only [Option.bind_some, aI_n, aL_n, aQ_n, sA_n, sL_n, csA_n, i_0, i_1, i_2, i_3, i_4, i_5, i_6, i_7, i_8, i_9, i_10, i_11, i_12, i_13, i_16, i_20, i_21, i_22, i_31, i_99, i_100, i_256, i_1000, nI_eq, nI_leI, nI_ltI, nI_add, pk_mul, ↓reduceIte, nt_le, nf_le, nt_lt, nf_lt, nt_eq, nf_eq, meet_N', meet_P', meet_S', meet_Z', meet_B', meet_O', n_1, n_2, n_3, n_4, n_5, n_10, n_11]
theorem or_16 {a x : Nat} (ha : a < 2 ^ x) (hx : x < 17) : nI a ||| nI (2 ^ x) = nI (a + 2 ^ x) := by rw [nI_or, or_pow ha]
theorem inputs9_n {o : Nat} {y : CS} {q n b c : Nat} {kd wt : Int32} {g : Nat → Nat} {f : Nat → Int32} (hn : n ≤ 4) (hc : c < 3 ^ n) (d1 : dT y q = some (kd, nI n, wt, some b)) (u2 : dB y b = some (2 ^ n, f)) (u3 : ∀ x, f x = nI (g x)) (hg : ∀ x, g x ≤ 2) : (okc n g c → fX2_inputsOf o y q (nI c) = some (nI (IMc n c))) ∧ (¬ okc n g c → fX2_inputsOf o y q (nI c) = some (nI 0)) := by
  have p := p16 hn
  have p8 := p81 hn
  obtain ⟨y2, y3⟩ := rd_f u2 u3 (show n ≤ 8 by omega)
  have nl : ∀ i, i < 2 ^ n → nmF (fun x => inB c x n) i < 2 ^ i := fun i _ => nmF_lt (fun x _ => inB_le c x n)
  have HH := lp_find (body := fun u => fX2_inputsOf_L4 o y q (nI c) u.1 u.2) (fun i => (nI (nmF (fun x => inB c x n) i), nI i)) (2 ^ n) (fun x => InC n c x ∧ g x = 0) (fun _ e => e = .inr (nI 0)) (en := .inl (nI (IMc n c))) (bigN_gt (by omega)) (fun i hi hP => ?_) (fun i hi hP => ?_) ?_
  · unfold fX2_inputsOf
    rcases HH with ⟨a1, a2⟩ | ⟨i, e, a1, a2, a3, rfl, a4⟩
    · refine ⟨fun _ => (congrArg (fun u => u.bind fun e9 => sel e9 (fun x10 => some x10) (fun rt => some rt)) a1).trans rfl, fun w => absurd (fun ⟨y, y1, y2, y3⟩ => a2 y y1 ⟨y2, y3⟩) w⟩
    · exact ⟨fun w => absurd ⟨i, a1, a2⟩ w, fun _ => (congrArg (fun u => u.bind fun e9 => sel e9 (fun x10 => some x10) (fun rt => some rt)) a4).trans rfl⟩
  · have il := inB_le c i n
    have gl := hg i
    have a := nl i hi
    have ii := isIn_n (n := n) (x := i) (c := c) hn (by omega) (by omega)
    have es : nmF (fun x => inB c x n) (i + 1) = nmF (fun x => inB c x n) i + inB c i n * 2 ^ i := rfl
    unfold fX2_inputsOf_L4 fX2_inputsOf_L4_J42
    rw [es]
    by_cases e : inB c i n = 1
    · have g0 : ¬ g i = 0 := fun w => hP ⟨(inB_in c i n).mp e, w⟩
      rw [e, Nat.one_mul]
      rw [e] at ii
      simp (disch := omega) only [d1, y2, ii, y3 i hi, shl16 i (by omega), or_16 a (show i < 17 by omega), Option.bind_some, aI_n, aL_n, aQ_n, sA_n, sL_n, csA_n, i_0, i_1, i_2, i_3, i_4, i_5, i_6, i_7, i_8, i_9, i_10, i_11, i_12, i_13, i_16, i_20, i_21, i_22, i_31, i_99, i_100, i_256, i_1000, nI_eq, nI_leI, nI_ltI, nI_add, pk_mul, ↓reduceIte, nt_le, nf_le, nt_lt, nf_lt, nt_eq, nf_eq, meet_N', meet_P', meet_S', meet_Z', meet_B', meet_O', n_1, n_2, n_3, n_4, n_5, n_10, n_11]
    · have e0 : inB c i n = 0 := by omega
      rw [e0, Nat.zero_mul, Nat.add_zero]
      rw [e0] at ii
      simp (disch := omega) only [d1, y2, ii, Option.bind_some, aI_n, aL_n, aQ_n, sA_n, sL_n, csA_n, i_0, i_1, i_2, i_3, i_4, i_5, i_6, i_7, i_8, i_9, i_10, i_11, i_12, i_13, i_16, i_20, i_21, i_22, i_31, i_99, i_100, i_256, i_1000, nI_eq, nI_leI, nI_ltI, nI_add, pk_mul, ↓reduceIte, nt_le, nf_le, nt_lt, nf_lt, nt_eq, nf_eq, meet_N', meet_P', meet_S', meet_Z', meet_B', meet_O', n_1, n_2, n_3, n_4, n_5, n_10, n_11]
  · have e := (inB_in c i n).mpr hP.1
    have ii := isIn_n (n := n) (x := i) (c := c) hn (by omega) (by omega)
    rw [e] at ii
    refine ⟨_, ?_, rfl⟩
    unfold fX2_inputsOf_L4
    simp (disch := omega) only [d1, y2, ii, y3 i hi, hP.2, Option.bind_some, aI_n, aL_n, aQ_n, sA_n, sL_n, csA_n, i_0, i_1, i_2, i_3, i_4, i_5, i_6, i_7, i_8, i_9, i_10, i_11, i_12, i_13, i_16, i_20, i_21, i_22, i_31, i_99, i_100, i_256, i_1000, nI_eq, nI_leI, nI_ltI, nI_add, pk_mul, ↓reduceIte, nt_le, nf_le, nt_lt, nf_lt, nt_eq, nf_eq, meet_N', meet_P', meet_S', meet_Z', meet_B', meet_O', n_1, n_2, n_3, n_4, n_5, n_10, n_11]
  · unfold fX2_inputsOf_L4
    simp (disch := omega) only [d1, y2, Option.bind_some, aI_n, aL_n, aQ_n, sA_n, sL_n, csA_n, i_0, i_1, i_2, i_3, i_4, i_5, i_6, i_7, i_8, i_9, i_10, i_11, i_12, i_13, i_16, i_20, i_21, i_22, i_31, i_99, i_100, i_256, i_1000, nI_eq, nI_leI, nI_ltI, nI_add, pk_mul, ↓reduceIte, nt_le, nf_le, nt_lt, nf_lt, nt_eq, nf_eq, meet_N', meet_P', meet_S', meet_Z', meet_B', meet_O', n_1, n_2, n_3, n_4, n_5, n_10, n_11]
    rfl
/-- the row of the inputs of the cubes that may be taken -/
def In14 (n : Nat) (g : Nat → Nat) (f : Nat → Int32) (m : Nat) : Prop := ∀ c, c < m → (okc n g c → f c = nI (IMc n c)) ∧ (¬ okc n g c → f c = nI 0)
def In15 (n : Nat) (g : Nat → Nat) (f : Nat → Int32) (m : Nat) : Prop := ∀ c, c < m → (wdc n g c → f c = nI (IMc n c)) ∧ (¬ wdc n g c → f c = nI 0)
theorem wider_n {o : Nat} {y : CS} {n c : Nat} {g : Nat → Nat} (hn : n ≤ 4) (hc : c < 3 ^ n) (h10 : y.1 10 = nI (3 ^ n)) (h14 : In14 n g (y.2.1 14) (3 ^ n)) : ((∃ i, i < n ∧ dg c i ≠ 2 ∧ okc n g (upc c i)) → fX2_hasWider o y (nI c) = some (nI 1)) ∧ ((¬ ∃ i, i < n ∧ dg c i ≠ 2 ∧ okc n g (upc c i)) → fX2_hasWider o y (nI c) = some (nI 0)) := by
  have p8 := p81 hn
  have HH := lp_find (body := fun u => fX2_hasWider_L4 o y (nI c) u.1 u.2) (fun i => (nI (c / 3 ^ i), nI (3 ^ i))) n (fun i => dg c i ≠ 2 ∧ okc n g (upc c i)) (fun _ e => e = .inr (nI 1)) (en := .inl ()) (bigN_gt (by omega)) (fun i hi hP => ?_) (fun i hi hP => ?_) ?_
  · have e0 : (nI c, nI 1) = (nI (c / 3 ^ 0), nI (3 ^ 0)) := by rw [Nat.pow_zero, Nat.div_one]
    unfold fX2_hasWider
    show (_ → (lpN (fun u => fX2_hasWider_L4 o y (nI c) u.1 u.2) bigN (nI c, nI 1)).bind _ = _) ∧ (_ → (lpN (fun u => fX2_hasWider_L4 o y (nI c) u.1 u.2) bigN (nI c, nI 1)).bind _ = _)
    rw [e0]
    rcases HH with ⟨a1, a2⟩ | ⟨i, e, a1, a2, a3, rfl, a4⟩
    · refine ⟨fun ⟨i, i1, i2⟩ => absurd i2 (a2 i i1), fun _ => ?_⟩
      rw [a1]; rfl
    · refine ⟨fun _ => ?_, fun w => absurd ⟨i, a1, a2⟩ w⟩
      rw [a4]; rfl
  · have e3 : c / 3 ^ i < 2 ^ 31 := by
      have : c / 3 ^ i ≤ c := Nat.div_le_self _ _
      omega
    have rr : nI (c / 3 ^ i) - nI (c / 3 ^ i) / (3 : Int32) * (3 : Int32) = nI (dg c i) := rem3 e3
    have hdl := dg_lt c i
    have p3i : 3 ^ i < 3 ^ n := Nat.pow_lt_pow_right (by omega) hi
    unfold fX2_hasWider_L4 fX2_hasWider_L4_J41
    simp only [rr]
    rw [Nat.pow_succ]
    by_cases d2 : dg c i = 2
    · simp (disch := omega) only [h10, d2, div3 (show c < 6561 by omega), Option.bind_some, aI_n, aL_n, aQ_n, sA_n, sL_n, csA_n, i_0, i_1, i_2, i_3, i_4, i_5, i_6, i_7, i_8, i_9, i_10, i_11, i_12, i_13, i_16, i_20, i_21, i_22, i_31, i_99, i_100, i_256, i_1000, nI_eq, nI_leI, nI_ltI, nI_add, pk_mul, ↓reduceIte, nt_le, nf_le, nt_lt, nf_lt, nt_eq, nf_eq, meet_N', meet_P', meet_S', meet_Z', meet_B', meet_O', n_1, n_2, n_3, n_4, n_5, n_10, n_11]
      rw [Nat.pow_succ]
    · have ul := up_lt d2 hi hc
      have v := (h14 (upc c i) ul).2 (fun w => hP ⟨d2, w⟩)
      have e : c + (2 - dg c i) * 3 ^ i = upc c i := rfl
      simp (disch := omega) only [h10, pk_sub, e, v, div3 (show c < 6561 by omega), Option.bind_some, aI_n, aL_n, aQ_n, sA_n, sL_n, csA_n, i_0, i_1, i_2, i_3, i_4, i_5, i_6, i_7, i_8, i_9, i_10, i_11, i_12, i_13, i_16, i_20, i_21, i_22, i_31, i_99, i_100, i_256, i_1000, nI_eq, nI_leI, nI_ltI, nI_add, pk_mul, ↓reduceIte, nt_le, nf_le, nt_lt, nf_lt, nt_eq, nf_eq, meet_N', meet_P', meet_S', meet_Z', meet_B', meet_O', n_1, n_2, n_3, n_4, n_5, n_10, n_11]
      rw [Nat.pow_succ]
  · have e3 : c / 3 ^ i < 2 ^ 31 := by
      have : c / 3 ^ i ≤ c := Nat.div_le_self _ _
      omega
    have rr : nI (c / 3 ^ i) - nI (c / 3 ^ i) / (3 : Int32) * (3 : Int32) = nI (dg c i) := rem3 e3
    have hdl := dg_lt c i
    have d2 := hP.1
    have p3i : 3 ^ i < 3 ^ n := Nat.pow_lt_pow_right (by omega) hi
    have ul := up_lt d2 hi hc
    have v := (h14 (upc c i) ul).1 hP.2
    have m0 := IMc_0 (c := upc c i) hn
    have ml := IMc_16 hn (upc c i)
    have e : c + (2 - dg c i) * 3 ^ i = upc c i := rfl
    refine ⟨_, ?_, rfl⟩
    unfold fX2_hasWider_L4
    simp only [rr]
    simp (disch := omega) only [h10, pk_sub, e, v, Option.bind_some, aI_n, aL_n, aQ_n, sA_n, sL_n, csA_n, i_0, i_1, i_2, i_3, i_4, i_5, i_6, i_7, i_8, i_9, i_10, i_11, i_12, i_13, i_16, i_20, i_21, i_22, i_31, i_99, i_100, i_256, i_1000, nI_eq, nI_leI, nI_ltI, nI_add, pk_mul, ↓reduceIte, nt_le, nf_le, nt_lt, nf_lt, nt_eq, nf_eq, meet_N', meet_P', meet_S', meet_Z', meet_B', meet_O', n_1, n_2, n_3, n_4, n_5, n_10, n_11]
  · unfold fX2_hasWider_L4
    simp (disch := omega) only [h10, Option.bind_some, aI_n, aL_n, aQ_n, sA_n, sL_n, csA_n, i_0, i_1, i_2, i_3, i_4, i_5, i_6, i_7, i_8, i_9, i_10, i_11, i_12, i_13, i_16, i_20, i_21, i_22, i_31, i_99, i_100, i_256, i_1000, nI_eq, nI_leI, nI_ltI, nI_add, pk_mul, ↓reduceIte, nt_le, nf_le, nt_lt, nf_lt, nt_eq, nf_eq, meet_N', meet_P', meet_S', meet_Z', meet_B', meet_O', n_1, n_2, n_3, n_4, n_5, n_10, n_11]
theorem cover_n {o : Nat} {y : CS} {n : Nat} {g : Nat → Nat} (hn : n ≤ 4) (h10 : y.1 10 = nI (3 ^ n)) (h15 : In15 n g (y.2.1 15) (3 ^ n)) : ∀ (k l fu : Nat), k ≤ 16 → l < 65536 → k < fu → (Cov (wdc n g) (IMc n) (3 ^ n) k l → fX2_canCover fu o y (nI l) (nI k) = some (nI 1)) ∧ (¬ Cov (wdc n g) (IMc n) (3 ^ n) k l → fX2_canCover fu o y (nI l) (nI k) = some (nI 0)) := by
  have p8 := p81 hn
  intro k
  induction k with
  | zero =>
    intro l fu hk hl hfu
    obtain ⟨fu', rfl⟩ : ∃ m, fu = m + 1 := ⟨fu - 1, by omega⟩
    show (l = 0 → fX2_canCover_B o (fX2_canCover fu' o) y (nI l) (nI 0) = some (nI 1)) ∧ (¬ l = 0 → fX2_canCover_B o (fX2_canCover fu' o) y (nI l) (nI 0) = some (nI 0))
    unfold fX2_canCover_B fX2_canCover_B_J8
    refine ⟨fun w => ?_, fun w => ?_⟩
    · subst w
      simp (disch := omega) only [Option.bind_some, aI_n, aL_n, aQ_n, sA_n, sL_n, csA_n, i_0, i_1, i_2, i_3, i_4, i_5, i_6, i_7, i_8, i_9, i_10, i_11, i_12, i_13, i_16, i_20, i_21, i_22, i_31, i_99, i_100, i_256, i_1000, nI_eq, nI_leI, nI_ltI, nI_add, pk_mul, ↓reduceIte, nt_le, nf_le, nt_lt, nf_lt, nt_eq, nf_eq, meet_N', meet_P', meet_S', meet_Z', meet_B', meet_O', n_1, n_2, n_3, n_4, n_5, n_10, n_11]
    · simp (disch := omega) only [Option.bind_some, aI_n, aL_n, aQ_n, sA_n, sL_n, csA_n, i_0, i_1, i_2, i_3, i_4, i_5, i_6, i_7, i_8, i_9, i_10, i_11, i_12, i_13, i_16, i_20, i_21, i_22, i_31, i_99, i_100, i_256, i_1000, nI_eq, nI_leI, nI_ltI, nI_add, pk_mul, ↓reduceIte, nt_le, nf_le, nt_lt, nf_lt, nt_eq, nf_eq, meet_N', meet_P', meet_S', meet_Z', meet_B', meet_O', n_1, n_2, n_3, n_4, n_5, n_10, n_11]
  | succ k ih =>
    intro l fu hk hl hfu
    obtain ⟨fu', rfl⟩ : ∃ m, fu = m + 1 := ⟨fu - 1, by omega⟩
    show (Cov (wdc n g) (IMc n) (3 ^ n) (k + 1) l → fX2_canCover_B o (fX2_canCover fu' o) y (nI l) (nI (k + 1)) = some (nI 1)) ∧ (¬ Cov (wdc n g) (IMc n) (3 ^ n) (k + 1) l → fX2_canCover_B o (fX2_canCover fu' o) y (nI l) (nI (k + 1)) = some (nI 0))
    by_cases l0 : l = 0
    · subst l0
      refine ⟨fun _ => ?_, fun w => absurd (Or.inl rfl) w⟩
      unfold fX2_canCover_B fX2_canCover_B_J8
      simp (disch := omega) only [Option.bind_some, aI_n, aL_n, aQ_n, sA_n, sL_n, csA_n, i_0, i_1, i_2, i_3, i_4, i_5, i_6, i_7, i_8, i_9, i_10, i_11, i_12, i_13, i_16, i_20, i_21, i_22, i_31, i_99, i_100, i_256, i_1000, nI_eq, nI_leI, nI_ltI, nI_add, pk_mul, ↓reduceIte, nt_le, nf_le, nt_lt, nf_lt, nt_eq, nf_eq, meet_N', meet_P', meet_S', meet_Z', meet_B', meet_O', n_1, n_2, n_3, n_4, n_5, n_10, n_11]
    · have lwl : lw l < 65536 := by
        have : lw l ≤ l := Nat.and_le_left
        omega
      have HH := lp_find (body := fun u => fX2_canCover_B_L26 o (fX2_canCover fu' o) y (nI l) (nI (k + 1)) (nI (lw l)) u) (fun c => nI c) (3 ^ n) (fun c => wdc n g c ∧ IMc n c &&& lw l ≠ 0 ∧ Cov (wdc n g) (IMc n) (3 ^ n) k (df l (IMc n c))) (fun _ e => e = .inr (nI 1)) (en := .inl ()) (bigN_gt (by omega)) (fun c hc hP => ?_) (fun c hc hP => ?_) ?_
      · have go : fX2_canCover_B o (fX2_canCover fu' o) y (nI l) (nI (k + 1)) = (lpN (fun u => fX2_canCover_B_L26 o (fX2_canCover fu' o) y (nI l) (nI (k + 1)) (nI (lw l)) u) bigN (nI 0)).bind fun e4 => sel e4 (fun _ => some (nI 0)) (fun rt => some rt) := by
          unfold fX2_canCover_B
          simp (disch := omega) only [lw_n hl, Option.bind_some, aI_n, aL_n, aQ_n, sA_n, sL_n, csA_n, i_0, i_1, i_2, i_3, i_4, i_5, i_6, i_7, i_8, i_9, i_10, i_11, i_12, i_13, i_16, i_20, i_21, i_22, i_31, i_99, i_100, i_256, i_1000, nI_eq, nI_leI, nI_ltI, nI_add, pk_mul, ↓reduceIte, nt_le, nf_le, nt_lt, nf_lt, nt_eq, nf_eq, meet_N', meet_P', meet_S', meet_Z', meet_B', meet_O', n_1, n_2, n_3, n_4, n_5, n_10, n_11]
        rw [go]
        rcases HH with ⟨a1, a2⟩ | ⟨c, e, a1, a2, a3, rfl, a4⟩
        · refine ⟨fun w => ?_, fun _ => by rw [a1]; rfl⟩
          rcases w with w | ⟨c, c1, c2⟩
          · exact absurd w l0
          · exact absurd c2 (a2 c c1)
        · exact ⟨fun _ => by rw [a4]; rfl, fun w => absurd (Or.inr ⟨c, a1, a2⟩) w⟩
      · have v := h15 c hc
        have dl := df_le l (IMc n c)
        unfold fX2_canCover_B_L26 fX2_canCover_B_L26_J70
        by_cases w : wdc n g c
        · have al : IMc n c &&& lw l ≤ lw l := Nat.and_le_right
          by_cases q : IMc n c &&& lw l = 0
          · simp (disch := omega) only [h10, v.1 w, nI_and, q, Option.bind_some, aI_n, aL_n, aQ_n, sA_n, sL_n, csA_n, i_0, i_1, i_2, i_3, i_4, i_5, i_6, i_7, i_8, i_9, i_10, i_11, i_12, i_13, i_16, i_20, i_21, i_22, i_31, i_99, i_100, i_256, i_1000, nI_eq, nI_leI, nI_ltI, nI_add, pk_mul, ↓reduceIte, nt_le, nf_le, nt_lt, nf_lt, nt_eq, nf_eq, meet_N', meet_P', meet_S', meet_Z', meet_B', meet_O', n_1, n_2, n_3, n_4, n_5, n_10, n_11]
          · have nc : ¬ Cov (wdc n g) (IMc n) (3 ^ n) k (df l (IMc n c)) := fun z => hP ⟨w, q, z⟩
            have r := (ih (df l (IMc n c)) fu' (by omega) (by omega) (by omega)).2 nc
            simp (disch := omega) only [h10, v.1 w, df_n, nI_and (IMc n c) (lw l), pk_sub, Nat.add_sub_cancel, r, Option.bind_some, aI_n, aL_n, aQ_n, sA_n, sL_n, csA_n, i_0, i_1, i_2, i_3, i_4, i_5, i_6, i_7, i_8, i_9, i_10, i_11, i_12, i_13, i_16, i_20, i_21, i_22, i_31, i_99, i_100, i_256, i_1000, nI_eq, nI_leI, nI_ltI, nI_add, pk_mul, ↓reduceIte, nt_le, nf_le, nt_lt, nf_lt, nt_eq, nf_eq, meet_N', meet_P', meet_S', meet_Z', meet_B', meet_O', n_1, n_2, n_3, n_4, n_5, n_10, n_11]
        · have z0 : 0 &&& lw l = 0 := Nat.zero_and _
          simp (disch := omega) only [h10, v.2 w, nI_and, z0, Option.bind_some, aI_n, aL_n, aQ_n, sA_n, sL_n, csA_n, i_0, i_1, i_2, i_3, i_4, i_5, i_6, i_7, i_8, i_9, i_10, i_11, i_12, i_13, i_16, i_20, i_21, i_22, i_31, i_99, i_100, i_256, i_1000, nI_eq, nI_leI, nI_ltI, nI_add, pk_mul, ↓reduceIte, nt_le, nf_le, nt_lt, nf_lt, nt_eq, nf_eq, meet_N', meet_P', meet_S', meet_Z', meet_B', meet_O', n_1, n_2, n_3, n_4, n_5, n_10, n_11]
      · have v := h15 c hc
        have dl := df_le l (IMc n c)
        have al : IMc n c &&& lw l ≤ lw l := Nat.and_le_right
        have q := hP.2.1
        have r := (ih (df l (IMc n c)) fu' (by omega) (by omega) (by omega)).1 hP.2.2
        refine ⟨_, ?_, rfl⟩
        unfold fX2_canCover_B_L26
        simp (disch := omega) only [h10, v.1 hP.1, df_n, nI_and (IMc n c) (lw l), pk_sub, Nat.add_sub_cancel, r, Option.bind_some, aI_n, aL_n, aQ_n, sA_n, sL_n, csA_n, i_0, i_1, i_2, i_3, i_4, i_5, i_6, i_7, i_8, i_9, i_10, i_11, i_12, i_13, i_16, i_20, i_21, i_22, i_31, i_99, i_100, i_256, i_1000, nI_eq, nI_leI, nI_ltI, nI_add, pk_mul, ↓reduceIte, nt_le, nf_le, nt_lt, nf_lt, nt_eq, nf_eq, meet_N', meet_P', meet_S', meet_Z', meet_B', meet_O', n_1, n_2, n_3, n_4, n_5, n_10, n_11]
      · unfold fX2_canCover_B_L26
        simp (disch := omega) only [h10, Option.bind_some, aI_n, aL_n, aQ_n, sA_n, sL_n, csA_n, i_0, i_1, i_2, i_3, i_4, i_5, i_6, i_7, i_8, i_9, i_10, i_11, i_12, i_13, i_16, i_20, i_21, i_22, i_31, i_99, i_100, i_256, i_1000, nI_eq, nI_leI, nI_ltI, nI_add, pk_mul, ↓reduceIte, nt_le, nf_le, nt_lt, nf_lt, nt_eq, nf_eq, meet_N', meet_P', meet_S', meet_Z', meet_B', meet_O', n_1, n_2, n_3, n_4, n_5, n_10, n_11]
