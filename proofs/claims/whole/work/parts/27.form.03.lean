/-! ===== form: the choice ===== -/
/-- c may be taken for l, with the least number of cubes -/
def NxC (n : Nat) (g : Nat → Nat) (l c : Nat) : Prop := c < 3 ^ n ∧ okc n g c ∧ IMc n c &&& lw l ≠ 0 ∧ ∃ m, IsMin (okc n g) (IMc n) (3 ^ n) l (m + 1) ∧ Cov (okc n g) (IMc n) (3 ^ n) m (df l (IMc n c))
def LNx (n : Nat) (g : Nat → Nat) (l c : Nat) : Prop := NxC n g l c ∧ ∀ c', c' < c → ¬ NxC n g l c'
theorem LNx_ex {n : Nat} {g : Nat → Nat} {l m : Nat} (h : IsMin (okc n g) (IMc n) (3 ^ n) l (m + 1)) : ∃ c, LNx n g l c := by
  refine pk_least (NxC n g l) ?_
  rcases h.1 with a | ⟨c, c1, c2, c3, c4⟩
  · have z : Cov (okc n g) (IMc n) (3 ^ n) 0 l := a
    exact absurd z (h.2 0 (by omega))
  · exact ⟨c, c1, c2, c3, m, h, c4⟩
theorem NxC_min {n : Nat} {g : Nat → Nat} {l c m : Nat} (hl : l < 65536) (h : NxC n g l c) (hm : IsMin (okc n g) (IMc n) (3 ^ n) l (m + 1)) : IsMin (okc n g) (IMc n) (3 ^ n) (df l (IMc n c)) m := by
  obtain ⟨c1, c2, c3, m', a1, a2⟩ := h
  have : m' + 1 = m + 1 := IsMin_u a1 hm
  have e : m' = m := by omega
  subst e
  refine ⟨a2, fun j hj q => ?_⟩
  exact hm.2 (j + 1) (by omega) (Or.inr ⟨c, c1, c2, c3, q⟩)
theorem Min_ex16 {n : Nat} {g : Nat → Nat} (hn : n ≤ 4) {l : Nat} (hl : l < 65536) (hY : ∀ x, x < 16 → bt l x = 1 → x < 2 ^ n ∧ g x = 1) : ∃ m, m ≤ 16 ∧ IsMin (okc n g) (IMc n) (3 ^ n) l m := by
  obtain ⟨m, m1, m2⟩ := pk_least (fun k => Cov (okc n g) (IMc n) (3 ^ n) k l) ⟨16, Cov_16 hn hl hY⟩
  refine ⟨m, ?_, m1, m2⟩
  rcases Nat.lt_or_ge 16 m with q | q
  · exact absurd (Cov_16 hn hl hY) (m2 16 q)
  · exact q
theorem Min_0 {n : Nat} {g : Nat → Nat} {l m : Nat} (h : IsMin (okc n g) (IMc n) (3 ^ n) l m) : m = 0 ↔ l = 0 := by
  constructor
  · intro e
    subst e
    exact h.1
  · intro e
    rcases Nat.eq_zero_or_pos m with q | q
    · exact q
    · have z : Cov (okc n g) (IMc n) (3 ^ n) 0 l := e
      exact absurd z (h.2 0 q)
theorem least9 {o : Nat} {y : CS} {n l m : Nat} {g : Nat → Nat} (hn : n ≤ 4) (hl : l < 65536) (hm : m ≤ 15) (h10 : y.1 10 = nI (3 ^ n)) (h14 : In14 n g (y.2.1 14) (3 ^ n)) (h15 : In15 n g (y.2.1 15) (3 ^ n)) (hM : IsMin (okc n g) (IMc n) (3 ^ n) l (m + 1)) {c : Nat} (hc : LNx n g l c) : fX2_leastCube o y (nI l) (nI m) = some (nI c) := by
  have p8 := p81 hn
  have lwl : lw l < 65536 := by
    have : lw l ≤ l := Nat.and_le_left
    omega
  have cv : ∀ c, (Cov (okc n g) (IMc n) (3 ^ n) m (df l (IMc n c)) → fX2_canCover 24 o y (nI (df l (IMc n c))) (nI m) = some (nI 1)) ∧ (¬ Cov (okc n g) (IMc n) (3 ^ n) m (df l (IMc n c)) → fX2_canCover 24 o y (nI (df l (IMc n c))) (nI m) = some (nI 0)) := fun c => by
    have dl := df_le l (IMc n c)
    have h := cover_n (o := o) hn h10 h15 m (df l (IMc n c)) 24 (by omega) (by omega) (by omega)
    rw [Cov_wide hn (by omega)] at h
    exact h
  have key : lpN (fun u => fX2_leastCube_L8 o y (nI l) (nI m) (nI (lw l)) u) bigN (nI 0) = some (.inr (nI c)) := by
    have c3 := hc.1.1
    refine lp_det (body := fun u => fX2_leastCube_L8 o y (nI l) (nI m) (nI (lw l)) u) (fun c => nI c) c (bigN_gt (by omega)) (fun i hi => ?_) ?_
    · have v := h14 i (by omega)
      have nn := hc.2 i hi
      have al : IMc n i &&& lw l ≤ lw l := Nat.and_le_right
      unfold fX2_leastCube_L8 fX2_leastCube_L8_J51
      by_cases ok : okc n g i
      · by_cases q : IMc n i &&& lw l = 0
        · simp (disch := omega) only [h10, v.1 ok, nI_and, q, Option.bind_some, aI_n, aL_n, aQ_n, sA_n, sL_n, csA_n, i_0, i_1, i_2, i_3, i_4, i_5, i_6, i_7, i_8, i_9, i_10, i_11, i_12, i_13, i_16, i_20, i_21, i_22, i_31, i_99, i_100, i_256, i_1000, nI_eq, nI_leI, nI_ltI, nI_add, pk_mul, ↓reduceIte, nt_le, nf_le, nt_lt, nf_lt, nt_eq, nf_eq, meet_N', meet_P', meet_S', meet_Z', meet_B', meet_O', n_1, n_2, n_3, n_4, n_5, n_10, n_11]
        · have nc : ¬ Cov (okc n g) (IMc n) (3 ^ n) m (df l (IMc n i)) := fun z => nn ⟨by omega, ok, q, m, hM, z⟩
          simp (disch := omega) only [h10, v.1 ok, df_n, nI_and (IMc n i) (lw l), (cv i).2 nc, Option.bind_some, aI_n, aL_n, aQ_n, sA_n, sL_n, csA_n, i_0, i_1, i_2, i_3, i_4, i_5, i_6, i_7, i_8, i_9, i_10, i_11, i_12, i_13, i_16, i_20, i_21, i_22, i_31, i_99, i_100, i_256, i_1000, nI_eq, nI_leI, nI_ltI, nI_add, pk_mul, ↓reduceIte, nt_le, nf_le, nt_lt, nf_lt, nt_eq, nf_eq, meet_N', meet_P', meet_S', meet_Z', meet_B', meet_O', n_1, n_2, n_3, n_4, n_5, n_10, n_11]
      · have z0 : 0 &&& lw l = 0 := Nat.zero_and _
        simp (disch := omega) only [h10, v.2 ok, nI_and, z0, Option.bind_some, aI_n, aL_n, aQ_n, sA_n, sL_n, csA_n, i_0, i_1, i_2, i_3, i_4, i_5, i_6, i_7, i_8, i_9, i_10, i_11, i_12, i_13, i_16, i_20, i_21, i_22, i_31, i_99, i_100, i_256, i_1000, nI_eq, nI_leI, nI_ltI, nI_add, pk_mul, ↓reduceIte, nt_le, nf_le, nt_lt, nf_lt, nt_eq, nf_eq, meet_N', meet_P', meet_S', meet_Z', meet_B', meet_O', n_1, n_2, n_3, n_4, n_5, n_10, n_11]
    · have v := h14 c c3
      have al : IMc n c &&& lw l ≤ lw l := Nat.and_le_right
      obtain ⟨-, ok, q, m', a1, a2⟩ := hc.1
      have : m' + 1 = m + 1 := IsMin_u a1 hM
      have e : m' = m := by omega
      subst e
      unfold fX2_leastCube_L8
      simp (disch := omega) only [h10, v.1 ok, df_n, nI_and (IMc n c) (lw l), (cv c).1 a2, Option.bind_some, aI_n, aL_n, aQ_n, sA_n, sL_n, csA_n, i_0, i_1, i_2, i_3, i_4, i_5, i_6, i_7, i_8, i_9, i_10, i_11, i_12, i_13, i_16, i_20, i_21, i_22, i_31, i_99, i_100, i_256, i_1000, nI_eq, nI_leI, nI_ltI, nI_add, pk_mul, ↓reduceIte, nt_le, nf_le, nt_lt, nf_lt, nt_eq, nf_eq, meet_N', meet_P', meet_S', meet_Z', meet_B', meet_O', n_1, n_2, n_3, n_4, n_5, n_10, n_11]
  unfold fX2_leastCube
  simp (disch := omega) only [lw_n hl, key, sel, Option.bind_some, aI_n, aL_n, aQ_n, sA_n, sL_n, csA_n, i_0, i_1, i_2, i_3, i_4, i_5, i_6, i_7, i_8, i_9, i_10, i_11, i_12, i_13, i_16, i_20, i_21, i_22, i_31, i_99, i_100, i_256, i_1000, nI_eq, nI_leI, nI_ltI, nI_add, pk_mul, ↓reduceIte, nt_le, nf_le, nt_lt, nf_lt, nt_eq, nf_eq, meet_N', meet_P', meet_S', meet_Z', meet_B', meet_O', n_1, n_2, n_3, n_4, n_5, n_10, n_11]
/-- what is left, taken step by step -/
def Seq (n : Nat) (g : Nat → Nat) (M : Nat) (ls ch : Nat → Nat) : Prop := ls 0 = Ym n g ∧ ∀ k, k < M → LNx n g (ls k) (ch k) ∧ ls (k + 1) = df (ls k) (IMc n (ch k))
theorem Seq_ex {n : Nat} {g : Nat → Nat} (hn : n ≤ 4) : ∃ M ls ch, M ≤ 16 ∧ Seq n g M ls ch ∧ (∀ k, k ≤ M → ls k < 65536 ∧ IsMin (okc n g) (IMc n) (3 ^ n) (ls k) (M - k)) := by
  obtain ⟨M, M1, M2⟩ := Min_ex16 (g := g) hn (Ym_16 hn g) (fun x hx hb => (Ym_x g).mp hb)
  have nx : ∀ l, ∃ c, (∃ m, IsMin (okc n g) (IMc n) (3 ^ n) l (m + 1)) → LNx n g l c := fun l => by
    by_cases h : ∃ m, IsMin (okc n g) (IMc n) (3 ^ n) l (m + 1)
    · obtain ⟨m, hm⟩ := h
      obtain ⟨c, hc⟩ := LNx_ex hm
      exact ⟨c, fun _ => hc⟩
    · exact ⟨0, fun w => absurd w h⟩
  obtain ⟨f, hf⟩ := Classical.axiomOfChoice nx
  have hls : ∃ ls : Nat → Nat, ls 0 = Ym n g ∧ ∀ k, ls (k + 1) = df (ls k) (IMc n (f (ls k))) := ⟨fun k => Nat.rec (Ym n g) (fun _ l => df l (IMc n (f l))) k, rfl, fun k => rfl⟩
  obtain ⟨ls, l0, l1⟩ := hls
  have all : ∀ k, k ≤ M → ls k < 65536 ∧ IsMin (okc n g) (IMc n) (3 ^ n) (ls k) (M - k) := by
    intro k
    induction k with
    | zero => intro _; rw [l0]; exact ⟨Ym_16 hn g, M2⟩
    | succ k ih =>
      intro hk
      obtain ⟨a1, a2⟩ := ih (by omega)
      rw [show M - k = (M - (k + 1)) + 1 by omega] at a2
      have b := hf (ls k) ⟨_, a2⟩
      rw [l1]
      have := df_le (ls k) (IMc n (f (ls k)))
      exact ⟨by omega, NxC_min a1 b.1 a2⟩
  refine ⟨M, ls, fun k => f (ls k), M1, ⟨l0, fun k hk => ⟨?_, l1 k⟩⟩, all⟩
  have a2 := (all k (by omega)).2
  rw [show M - k = (M - (k + 1)) + 1 by omega] at a2
  exact hf (ls k) ⟨_, a2⟩
theorem find_n {o : Nat} {z : CS} {q n b M : Nat} {kd wt : Int32} {g ls ch : Nat → Nat} {f : Nat → Int32} (hn : n ≤ 4) (d1 : dT z q = some (kd, nI n, wt, some b)) (u2 : dB z b = some (2 ^ n, f)) (u3 : ∀ x, f x = nI (g x)) (hg : ∀ x, g x ≤ 2) (hM : M ≤ 16) (hS : Seq n g M ls ch) (hA : ∀ k, k ≤ M → ls k < 65536 ∧ IsMin (okc n g) (IMc n) (3 ^ n) (ls k) (M - k)) : ∃ e, fX2_find o z q = some e ∧ ZF z e ∧ e.1 9 = nI M ∧ ∀ k, k < M → e.2.1 13 k = nI (ch k) := by
  have p := p16 hn
  have p8 := p81 hn
  have z10 : ZF z (cI z 10 (nI (3 ^ n))) := ZF.rf.iu (by omega)
  -- the inputs of the cubes
  have H13 := lp_count (body := fun u => fX2_find_L13 o u.2 q u.1) (fun i s => s.1 = nI i ∧ (ZF z s.2 ∧ s.2.1 10 = nI (3 ^ n)) ∧ In14 n g (s.2.2.1 14) i) (3 ^ n) (fun e => (ZF z e ∧ e.1 10 = nI (3 ^ n)) ∧ In14 n g (e.2.1 14) (3 ^ n)) (bigN_gt (by omega)) (fun i s hi hs => by
    obtain ⟨l, y⟩ := s
    obtain ⟨rfl, ⟨s1, s2⟩, s3⟩ := hs
    simp only at s1 s2 s3
    have io := inputs9_n (o := o) hn hi (ZF_T s1 d1) (ZF_B s1 u2) u3 hg
    have mk : ∀ v, fX2_inputsOf o y q (nI i) = some (nI v) → (okc n g i → v = IMc n i) → (¬ okc n g i → v = 0) → ∃ s', (fun u : Int32 × CS => fX2_find_L13 o u.2 q u.1) (nI i, y) = some (.inl s') ∧ s'.1 = nI (i + 1) ∧ (ZF z s'.2 ∧ s'.2.1 10 = nI (3 ^ n)) ∧ In14 n g (s'.2.2.1 14) (i + 1) := by
      intro v hv h1 h2
      refine ⟨(nI (i + 1), cAr y 14 i (nI v)), ?_, rfl, ⟨s1.up (by omega), s2⟩, fun c hc => ?_⟩
      · show fX2_find_L13 o y q (nI i) = _
        unfold fX2_find_L13
        simp (disch := omega) only [s2, hv, Option.bind_some, aI_n, aL_n, aQ_n, sA_n, sL_n, csA_n, i_0, i_1, i_2, i_3, i_4, i_5, i_6, i_7, i_8, i_9, i_10, i_11, i_12, i_13, i_16, i_20, i_21, i_22, i_31, i_99, i_100, i_256, i_1000, nI_eq, nI_leI, nI_ltI, nI_add, pk_mul, ↓reduceIte, nt_le, nf_le, nt_lt, nf_lt, nt_eq, nf_eq, meet_N', meet_P', meet_S', meet_Z', meet_B', meet_O', n_1, n_2, n_3, n_4, n_5, n_10, n_11]
      · show (okc n g c → (cAr y 14 i (nI v)).2.1 14 c = _) ∧ (¬ okc n g c → (cAr y 14 i (nI v)).2.1 14 c = _)
        by_cases e : c = i
        · rw [e, cAr_s]
          exact ⟨fun w => by rw [h1 w], fun w => by rw [h2 w]⟩
        · rw [cAr_j e]
          exact s3 c (by omega)
    by_cases ok : okc n g i
    · exact mk _ (io.1 ok) (fun _ => rfl) (fun w => absurd ok w)
    · exact mk _ (io.2 ok) (fun w => absurd w ok) (fun _ => rfl)) (fun s hs => by
    obtain ⟨l, y⟩ := s
    obtain ⟨rfl, ⟨s1, s2⟩, s3⟩ := hs
    simp only at s1 s2 s3
    refine ⟨y, ?_, ⟨s1, s2⟩, s3⟩
    unfold fX2_find_L13
    simp (disch := omega) only [s2, Option.bind_some, aI_n, aL_n, aQ_n, sA_n, sL_n, csA_n, i_0, i_1, i_2, i_3, i_4, i_5, i_6, i_7, i_8, i_9, i_10, i_11, i_12, i_13, i_16, i_20, i_21, i_22, i_31, i_99, i_100, i_256, i_1000, nI_eq, nI_leI, nI_ltI, nI_add, pk_mul, ↓reduceIte, nt_le, nf_le, nt_lt, nf_lt, nt_eq, nf_eq, meet_N', meet_P', meet_S', meet_Z', meet_B', meet_O', n_1, n_2, n_3, n_4, n_5, n_10, n_11]) (s := (nI 0, cI z 10 (nI (3 ^ n)))) ⟨rfl, ⟨z10, cI_e⟩, fun c hc => by omega⟩
  obtain ⟨e5, a1, ⟨a2, a3⟩, a4⟩ := H13
  -- the wide ones
  have H40 := lp_count (body := fun u => fX2_find_L40 o u.2 q u.1) (fun i s => s.1 = nI i ∧ (ZF z s.2 ∧ s.2.1 10 = nI (3 ^ n)) ∧ In14 n g (s.2.2.1 14) (3 ^ n) ∧ In15 n g (s.2.2.1 15) i) (3 ^ n) (fun e => (ZF z e ∧ e.1 10 = nI (3 ^ n)) ∧ In14 n g (e.2.1 14) (3 ^ n) ∧ In15 n g (e.2.1 15) (3 ^ n)) (bigN_gt (by omega)) (fun i s hi hs => by
    obtain ⟨l, y⟩ := s
    obtain ⟨rfl, ⟨s1, s2⟩, s3, s4⟩ := hs
    simp only at s1 s2 s3 s4
    have wd := wider_n (o := o) hn hi s2 s3
    have v14 := s3 i hi
    have mk : ∀ v, fX2_find_L40 o y q (nI i) = some (.inl (nI (i + 1), cAr y 15 i (nI v))) → (wdc n g i → v = IMc n i) → (¬ wdc n g i → v = 0) → ∃ s', (fun u : Int32 × CS => fX2_find_L40 o u.2 q u.1) (nI i, y) = some (.inl s') ∧ s'.1 = nI (i + 1) ∧ (ZF z s'.2 ∧ s'.2.1 10 = nI (3 ^ n)) ∧ In14 n g (s'.2.2.1 14) (3 ^ n) ∧ In15 n g (s'.2.2.1 15) (i + 1) := by
      intro v hv h1 h2
      refine ⟨(nI (i + 1), cAr y 15 i (nI v)), hv, rfl, ⟨s1.up (by omega), s2⟩, ?_, fun c hc => ?_⟩
      · show In14 n g ((cAr y 15 i (nI v)).2.1 14) (3 ^ n)
        rw [cAr_n (by omega)]; exact s3
      · show (wdc n g c → (cAr y 15 i (nI v)).2.1 15 c = _) ∧ (¬ wdc n g c → (cAr y 15 i (nI v)).2.1 15 c = _)
        by_cases e : c = i
        · rw [e, cAr_s]
          exact ⟨fun w => by rw [h1 w], fun w => by rw [h2 w]⟩
        · rw [cAr_j e]
          exact s4 c (by omega)
    by_cases w : ∃ j, j < n ∧ dg i j ≠ 2 ∧ okc n g (upc i j)
    · refine mk 0 ?_ (fun q => absurd w q.2) (fun _ => rfl)
      unfold fX2_find_L40 fX2_find_L40_J71
      simp (disch := omega) only [s2, wd.1 w, Option.bind_some, aI_n, aL_n, aQ_n, sA_n, sL_n, csA_n, i_0, i_1, i_2, i_3, i_4, i_5, i_6, i_7, i_8, i_9, i_10, i_11, i_12, i_13, i_16, i_20, i_21, i_22, i_31, i_99, i_100, i_256, i_1000, nI_eq, nI_leI, nI_ltI, nI_add, pk_mul, ↓reduceIte, nt_le, nf_le, nt_lt, nf_lt, nt_eq, nf_eq, meet_N', meet_P', meet_S', meet_Z', meet_B', meet_O', n_1, n_2, n_3, n_4, n_5, n_10, n_11]
    · by_cases ok : okc n g i
      · refine mk (IMc n i) ?_ (fun _ => rfl) (fun q => absurd ⟨ok, w⟩ q)
        unfold fX2_find_L40 fX2_find_L40_J71
        simp (disch := omega) only [s2, wd.2 w, v14.1 ok, Option.bind_some, aI_n, aL_n, aQ_n, sA_n, sL_n, csA_n, i_0, i_1, i_2, i_3, i_4, i_5, i_6, i_7, i_8, i_9, i_10, i_11, i_12, i_13, i_16, i_20, i_21, i_22, i_31, i_99, i_100, i_256, i_1000, nI_eq, nI_leI, nI_ltI, nI_add, pk_mul, ↓reduceIte, nt_le, nf_le, nt_lt, nf_lt, nt_eq, nf_eq, meet_N', meet_P', meet_S', meet_Z', meet_B', meet_O', n_1, n_2, n_3, n_4, n_5, n_10, n_11]
      · refine mk 0 ?_ (fun q => absurd q.1 ok) (fun _ => rfl)
        unfold fX2_find_L40 fX2_find_L40_J71
        simp (disch := omega) only [s2, wd.2 w, v14.2 ok, Option.bind_some, aI_n, aL_n, aQ_n, sA_n, sL_n, csA_n, i_0, i_1, i_2, i_3, i_4, i_5, i_6, i_7, i_8, i_9, i_10, i_11, i_12, i_13, i_16, i_20, i_21, i_22, i_31, i_99, i_100, i_256, i_1000, nI_eq, nI_leI, nI_ltI, nI_add, pk_mul, ↓reduceIte, nt_le, nf_le, nt_lt, nf_lt, nt_eq, nf_eq, meet_N', meet_P', meet_S', meet_Z', meet_B', meet_O', n_1, n_2, n_3, n_4, n_5, n_10, n_11]) (fun s hs => by
    obtain ⟨l, y⟩ := s
    obtain ⟨rfl, ⟨s1, s2⟩, s3⟩ := hs
    simp only at s1 s2 s3
    refine ⟨y, ?_, ⟨s1, s2⟩, s3⟩
    unfold fX2_find_L40
    simp (disch := omega) only [s2, Option.bind_some, aI_n, aL_n, aQ_n, sA_n, sL_n, csA_n, i_0, i_1, i_2, i_3, i_4, i_5, i_6, i_7, i_8, i_9, i_10, i_11, i_12, i_13, i_16, i_20, i_21, i_22, i_31, i_99, i_100, i_256, i_1000, nI_eq, nI_leI, nI_ltI, nI_add, pk_mul, ↓reduceIte, nt_le, nf_le, nt_lt, nf_lt, nt_eq, nf_eq, meet_N', meet_P', meet_S', meet_Z', meet_B', meet_O', n_1, n_2, n_3, n_4, n_5, n_10, n_11]) (s := (nI 0, e5)) ⟨rfl, ⟨a2, a3⟩, a4, fun c hc => by omega⟩
  obtain ⟨e9, b1, ⟨b2, b3⟩, b4, b5⟩ := H40
  obtain ⟨y2, y3⟩ := rd_f (ZF_B b2 u2) u3 (show n ≤ 8 by omega)
  have y1 := ZF_T b2 d1
  -- the inputs that say yes
  have l82 : lpN (fun u => fX2_find_L82 o e9 q u.1 u.2) bigN (nI 0, nI 0) = some (nI (Ym n g)) := by
    refine lp_det (body := fun u => fX2_find_L82 o e9 q u.1 u.2) (fun i => (nI (nmF (fun x => if g x = 1 then 1 else 0) i), nI i)) (2 ^ n) (bigN_gt (by omega)) (fun i hi => ?_) ?_
    · have a := nmF_lt (Ym_le g i)
      have gl := hg i
      have es : nmF (fun x => if g x = 1 then 1 else 0) (i + 1) = nmF (fun x => if g x = 1 then 1 else 0) i + (if g i = 1 then 1 else 0) * 2 ^ i := rfl
      unfold fX2_find_L82 fX2_find_L82_J109
      by_cases c : g i = 1
      · rw [es, if_pos c, Nat.one_mul]
        simp (disch := omega) only [y1, y2, y3 i hi, c, shl16 i (by omega), or_16 a (show i < 17 by omega), Option.bind_some, aI_n, aL_n, aQ_n, sA_n, sL_n, csA_n, i_0, i_1, i_2, i_3, i_4, i_5, i_6, i_7, i_8, i_9, i_10, i_11, i_12, i_13, i_16, i_20, i_21, i_22, i_31, i_99, i_100, i_256, i_1000, nI_eq, nI_leI, nI_ltI, nI_add, pk_mul, ↓reduceIte, nt_le, nf_le, nt_lt, nf_lt, nt_eq, nf_eq, meet_N', meet_P', meet_S', meet_Z', meet_B', meet_O', n_1, n_2, n_3, n_4, n_5, n_10, n_11]
      · rw [es, if_neg c, Nat.zero_mul, Nat.add_zero]
        simp (disch := omega) only [y1, y2, y3 i hi, nI_or, Nat.or_zero, Option.bind_some, aI_n, aL_n, aQ_n, sA_n, sL_n, csA_n, i_0, i_1, i_2, i_3, i_4, i_5, i_6, i_7, i_8, i_9, i_10, i_11, i_12, i_13, i_16, i_20, i_21, i_22, i_31, i_99, i_100, i_256, i_1000, nI_eq, nI_leI, nI_ltI, nI_add, pk_mul, ↓reduceIte, nt_le, nf_le, nt_lt, nf_lt, nt_eq, nf_eq, meet_N', meet_P', meet_S', meet_Z', meet_B', meet_O', n_1, n_2, n_3, n_4, n_5, n_10, n_11]
    · unfold fX2_find_L82
      simp (disch := omega) only [y1, y2, Option.bind_some, aI_n, aL_n, aQ_n, sA_n, sL_n, csA_n, i_0, i_1, i_2, i_3, i_4, i_5, i_6, i_7, i_8, i_9, i_10, i_11, i_12, i_13, i_16, i_20, i_21, i_22, i_31, i_99, i_100, i_256, i_1000, nI_eq, nI_leI, nI_ltI, nI_add, pk_mul, ↓reduceIte, nt_le, nf_le, nt_lt, nf_lt, nt_eq, nf_eq, meet_N', meet_P', meet_S', meet_Z', meet_B', meet_O', n_1, n_2, n_3, n_4, n_5, n_10, n_11]
      rfl
  -- how many
  have Y16 := Ym_16 hn g
  have cvY : ∀ k, k ≤ 16 → (Cov (okc n g) (IMc n) (3 ^ n) k (Ym n g) → fX2_canCover 24 o e9 (nI (Ym n g)) (nI k) = some (nI 1)) ∧ (¬ Cov (okc n g) (IMc n) (3 ^ n) k (Ym n g) → fX2_canCover 24 o e9 (nI (Ym n g)) (nI k) = some (nI 0)) := fun k hk => by
    have h := cover_n (o := o) hn b3 b5 k (Ym n g) 24 hk Y16 (by omega)
    rw [Cov_wide hn Y16] at h
    exact h
  have hMin := (hA 0 (by omega)).2
  rw [hS.1, Nat.sub_zero] at hMin
  have l119 : lpN (fun u => fX2_find_L119 o e9 (nI (Ym n g)) u) bigN (nI 0) = some (nI M) := by
    refine lp_det (body := fun u => fX2_find_L119 o e9 (nI (Ym n g)) u) (fun i => nI i) M (bigN_gt (by omega)) (fun i hi => ?_) ?_
    · unfold fX2_find_L119
      simp (disch := omega) only [(cvY i (by omega)).2 (hMin.2 i hi), Option.bind_some, aI_n, aL_n, aQ_n, sA_n, sL_n, csA_n, i_0, i_1, i_2, i_3, i_4, i_5, i_6, i_7, i_8, i_9, i_10, i_11, i_12, i_13, i_16, i_20, i_21, i_22, i_31, i_99, i_100, i_256, i_1000, nI_eq, nI_leI, nI_ltI, nI_add, pk_mul, ↓reduceIte, nt_le, nf_le, nt_lt, nf_lt, nt_eq, nf_eq, meet_N', meet_P', meet_S', meet_Z', meet_B', meet_O', n_1, n_2, n_3, n_4, n_5, n_10, n_11]
    · unfold fX2_find_L119
      by_cases m16 : M = 16
      · subst m16
        simp (disch := omega) only [Option.bind_some, aI_n, aL_n, aQ_n, sA_n, sL_n, csA_n, i_0, i_1, i_2, i_3, i_4, i_5, i_6, i_7, i_8, i_9, i_10, i_11, i_12, i_13, i_16, i_20, i_21, i_22, i_31, i_99, i_100, i_256, i_1000, nI_eq, nI_leI, nI_ltI, nI_add, pk_mul, ↓reduceIte, nt_le, nf_le, nt_lt, nf_lt, nt_eq, nf_eq, meet_N', meet_P', meet_S', meet_Z', meet_B', meet_O', n_1, n_2, n_3, n_4, n_5, n_10, n_11]
      · simp (disch := omega) only [(cvY M hM).1 hMin.1, Option.bind_some, aI_n, aL_n, aQ_n, sA_n, sL_n, csA_n, i_0, i_1, i_2, i_3, i_4, i_5, i_6, i_7, i_8, i_9, i_10, i_11, i_12, i_13, i_16, i_20, i_21, i_22, i_31, i_99, i_100, i_256, i_1000, nI_eq, nI_leI, nI_ltI, nI_add, pk_mul, ↓reduceIte, nt_le, nf_le, nt_lt, nf_lt, nt_eq, nf_eq, meet_N', meet_P', meet_S', meet_Z', meet_B', meet_O', n_1, n_2, n_3, n_4, n_5, n_10, n_11]
  -- which
  have H148 := lp_count (body := fun u => fX2_find_L148 o u.2.2 u.1 u.2.1) (fun i s => ∃ y, s = (nI (ls i), nI i, y) ∧ (ZF z y ∧ y.1 10 = nI (3 ^ n) ∧ y.1 9 = nI M) ∧ In14 n g (y.2.1 14) (3 ^ n) ∧ In15 n g (y.2.1 15) (3 ^ n) ∧ ∀ k, k < i → y.2.1 13 k = nI (ch k)) M (fun e => (ZF z e ∧ e.1 9 = nI M) ∧ ∀ k, k < M → e.2.1 13 k = nI (ch k)) (bigN_gt (by omega)) (fun i s hi hs => by
    obtain ⟨y, rfl, ⟨s1, s2, s3⟩, s4, s5, s6⟩ := hs
    obtain ⟨h1, h2⟩ := hS.2 i hi
    obtain ⟨m1, m2⟩ := hA i (by omega)
    rw [show M - i = (M - i - 1) + 1 by omega] at m2
    have c3 := h1.1.1
    have ok := h1.1.2.1
    have lc := least9 (o := o) (m := M - i - 1) hn m1 (by omega) s2 s4 s5 m2 h1
    have v14 : (cAr y 13 i (nI (ch i))).2.1 14 (ch i) = nI (IMc n (ch i)) := by rw [cAr_n (by omega)]; exact (s4 (ch i) c3).1 ok
    have v13 : (cAr y 13 i (nI (ch i))).2.1 13 i = nI (ch i) := cAr_s
    refine ⟨(nI (ls (i + 1)), nI (i + 1), cAr y 13 i (nI (ch i))), ?_, cAr y 13 i (nI (ch i)), rfl, ⟨s1.up (by omega), s2, s3⟩, ?_, ?_, fun k hk => ?_⟩
    · show fX2_find_L148 o y (nI (ls i)) (nI i) = _
      rw [h2]
      unfold fX2_find_L148
      simp (disch := omega) only [s3, pk_sub, lc, v13, v14, df_n, Option.bind_some, aI_n, aL_n, aQ_n, sA_n, sL_n, csA_n, i_0, i_1, i_2, i_3, i_4, i_5, i_6, i_7, i_8, i_9, i_10, i_11, i_12, i_13, i_16, i_20, i_21, i_22, i_31, i_99, i_100, i_256, i_1000, nI_eq, nI_leI, nI_ltI, nI_add, pk_mul, ↓reduceIte, nt_le, nf_le, nt_lt, nf_lt, nt_eq, nf_eq, meet_N', meet_P', meet_S', meet_Z', meet_B', meet_O', n_1, n_2, n_3, n_4, n_5, n_10, n_11]
    · rw [cAr_n (by omega)]; exact s4
    · rw [cAr_n (by omega)]; exact s5
    · by_cases e : k = i
      · rw [e]; exact cAr_s
      · rw [cAr_j e]; exact s6 k (by omega)) (fun s hs => by
    obtain ⟨y, rfl, ⟨s1, s2, s3⟩, s4, s5, s6⟩ := hs
    refine ⟨y, ?_, ⟨s1, s3⟩, s6⟩
    show fX2_find_L148 o y (nI (ls M)) (nI M) = _
    unfold fX2_find_L148
    simp (disch := omega) only [s3, Option.bind_some, aI_n, aL_n, aQ_n, sA_n, sL_n, csA_n, i_0, i_1, i_2, i_3, i_4, i_5, i_6, i_7, i_8, i_9, i_10, i_11, i_12, i_13, i_16, i_20, i_21, i_22, i_31, i_99, i_100, i_256, i_1000, nI_eq, nI_leI, nI_ltI, nI_add, pk_mul, ↓reduceIte, nt_le, nf_le, nt_lt, nf_lt, nt_eq, nf_eq, meet_N', meet_P', meet_S', meet_Z', meet_B', meet_O', n_1, n_2, n_3, n_4, n_5, n_10, n_11]) (s := (nI (Ym n g), nI 0, cI e9 9 (nI M))) ⟨cI e9 9 (nI M), by rw [hS.1], ⟨b2.iu (by omega), by rw [cI_n (by omega)]; exact b3, cI_e⟩, b4, b5, fun k hk => by omega⟩
  obtain ⟨e23, c1, ⟨c2, c3⟩, c4⟩ := H148
  refine ⟨e23, ?_, c2, c3, c4⟩
  unfold fX2_find
  simp (disch := omega) only [d1, pow_n (show n ≤ 8 by omega), a1, b1, l82, l119, c1, Option.bind_some, aI_n, aL_n, aQ_n, sA_n, sL_n, csA_n, i_0, i_1, i_2, i_3, i_4, i_5, i_6, i_7, i_8, i_9, i_10, i_11, i_12, i_13, i_16, i_20, i_21, i_22, i_31, i_99, i_100, i_256, i_1000, nI_eq, nI_leI, nI_ltI, nI_add, pk_mul, ↓reduceIte, nt_le, nf_le, nt_lt, nf_lt, nt_eq, nf_eq, meet_N', meet_P', meet_S', meet_Z', meet_B', meet_O', n_1, n_2, n_3, n_4, n_5, n_10, n_11]
