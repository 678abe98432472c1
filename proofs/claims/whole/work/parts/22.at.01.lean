/-! ===== at, most, where: the class ===== -/
def ZQ (z z' : CS) : Prop := (∀ k, k ≠ 8 → z'.1 k = z.1 k) ∧ (∀ k, (k < 9 ∨ 11 < k) → z'.2.1 k = z.2.1 k) ∧ z'.2.2 = z.2.2
theorem ZQ.rf {z : CS} : ZQ z z := ⟨fun _ _ => rfl, fun _ _ => rfl, rfl⟩
theorem ZQ.tr {x y z : CS} (h : ZQ x y) (h' : ZQ y z) : ZQ x z := ⟨fun k hk => (h'.1 k hk).trans (h.1 k hk), fun k hk => (h'.2.1 k hk).trans (h.2.1 k hk), h'.2.2.trans h.2.2⟩
theorem ZQ.up {z z' : CS} {k i : Nat} {x : Int32} (h : ZQ z z') (hk : 9 ≤ k) (hk' : k ≤ 11) : ZQ z (cAr z' k i x) := ⟨h.1, fun j hj => by rw [cAr_n (by omega)]; exact h.2.1 j hj, h.2.2⟩
theorem ZQ.i8 {z z' : CS} {x : Int32} (h : ZQ z z') : ZQ z (cI z' 8 x) := ⟨fun k hk => by rw [cI_n hk]; exact h.1 k hk, h.2.1, h.2.2⟩
theorem ZQ_T {z z' : CS} {q : Nat} {t : Int32 × Int32 × Int32 × Option Nat} (h : ZQ z z') (d : dT z q = some t) : dT z' q = some t := by
  have : dT z' q = dT z q := by unfold dT cpl; rw [h.2.2]
  rw [this]; exact d
theorem ZQ_B {z z' : CS} {q : Nat} {t : Nat × (Nat → Int32)} (h : ZQ z z') (d : dB z q = some t) : dB z' q = some t := by
  have : dB z' q = dB z q := by unfold dB cpl; rw [h.2.2]
  rw [this]; exact d
theorem Sim_zq {o : Nat} {z z' : CS} {r : RS} (h : Sim o z r) (hz : ZQ z z') : Sim o z' r := by
  obtain ⟨h1, h2, h3, h4, -⟩ := id h
  have hp : z'.2.2.2.2 = z.2.2.2.2 := by rw [hz.2.2]
  have ge : TkGe z z' := TkGe_id (by rw [hp])
  refine Sim_g h (fun k _ h8 _ => hz.1 k h8) (fun k hk => hz.2.1 k (by omega)) (by rw [hz.2.2]) ge (fun _ _ => rfl) (fun _ _ => rfl) ?_ (ShR_ge h2 (pool_ge hp) (ShR_okd h2) (by rw [hz.2.2]) ⟨rfl, rfl, rfl⟩) (PlR_all h3 ge (fun j _ => by rw [hz.2.2]) (fun p _ => RSame.rf)) (PlR_all h4 ge (fun j _ => by rw [hz.2.2]) (fun p _ => RSame.rf))
  unfold PoolOK cpl cn at h1 ⊢
  rw [hp]; exact h1
/-- the blocks of x -/
def Bk (n : Nat) (g : Nat → Nat) (x t : Nat) : Prop := t < 2 ^ n ∧ g (x ^^^ t) ≠ g x
theorem Bk_0 {n : Nat} {g : Nat → Nat} {x : Nat} : ¬ Bk n g x 0 := fun h => h.2 (by rw [Nat.xor_zero])
theorem nar01 : ∀ v, v < 2 → vp_nar .boolean (nI v) = nI v := by decide
/-- turns, as far as m -/
def Tn (n : Nat) (g : Nat → Nat) (x : Nat) (f : Nat → Int32) (m : Nat) : Prop := ∀ s, s < m → (TB (Bk n g x) s → f s = nI 1) ∧ (¬ TB (Bk n g x) s → f s = nI 0)
theorem byP_n {o : Nat} {z : CS} {q n b s x : Nat} {kd wt l2 : Int32} {g : Nat → Nat} (n8 : n ≤ 8) (d1 : dT z q = some (kd, nI n, wt, some b)) (hs : s < 2 ^ n) (ht : Tn n g x (z.2.1 9) s) : ∃ e, lpN (fun u => fX0_load_L22 o z q l2 (nI s) u.1 u.2) bigN (nI 0, nI 0) = some e ∧ ((byP (Bk n g x) n s → e = nI 1) ∧ (¬ byP (Bk n g x) n s → e = nI 0)) := by
  have p2 := p2le n8
  refine lp_upto (fun i st => (st = (nI 0, nI i) ∧ ∀ j, j < i → ¬ (bt s j = 1 ∧ TB (Bk n g x) (s - 2 ^ j))) ∨ (st = (nI 1, nI i) ∧ byP (Bk n g x) n s)) n _ (bigN_gt (by omega)) (fun i st hi hst => ?_) (fun st hst => ?_) (Or.inl ⟨rfl, fun j hj => by omega⟩)
  · rcases hst with ⟨rfl, hno⟩ | ⟨rfl, hyes⟩
    · left
      have bl := bt_lt s i
      unfold fX0_load_L22 fX0_load_L22_J64 fX0_load_L22_J65
      by_cases hb : bt s i = 1
      · obtain ⟨x1, x2, x3⟩ := (xor_c s (by omega) i (by omega)).1 hb
        have hp := p2pos (n := i)
        have t := ht (s - 2 ^ i) (by omega)
        by_cases hT : TB (Bk n g x) (s - 2 ^ i)
        · refine ⟨(nI 1, nI (i + 1)), ?_, Or.inr ⟨rfl, i, hi, hb, hT⟩⟩
          simp (disch := omega) only [d1, bitB (show s < 2 ^ 31 by omega) (show i < 32 by omega), hb, shl1' i (by omega), nI_xor, x1, t.1 hT, Option.bind_some, aI_n, aL_n, aQ_n, sA_n, sL_n, csA_n, i_0, i_1, i_2, i_3, i_4, i_5, i_6, i_7, i_8, i_9, i_10, i_11, i_12, i_13, i_16, i_20, i_21, i_22, i_31, i_99, i_100, i_256, i_1000, nI_eq, nI_leI, nI_ltI, nI_add, pk_mul, ↓reduceIte, nt_le, nf_le, nt_lt, nf_lt, nt_eq, nf_eq, meet_N', meet_P', meet_S', meet_Z', meet_B', meet_O', n_1, n_2, n_3, n_4, n_5, n_10, n_11]
        · refine ⟨(nI 0, nI (i + 1)), ?_, Or.inl ⟨rfl, fun j hj w => ?_⟩⟩
          · simp (disch := omega) only [d1, bitB (show s < 2 ^ 31 by omega) (show i < 32 by omega), hb, shl1' i (by omega), nI_xor, x1, t.2 hT, Option.bind_some, aI_n, aL_n, aQ_n, sA_n, sL_n, csA_n, i_0, i_1, i_2, i_3, i_4, i_5, i_6, i_7, i_8, i_9, i_10, i_11, i_12, i_13, i_16, i_20, i_21, i_22, i_31, i_99, i_100, i_256, i_1000, nI_eq, nI_leI, nI_ltI, nI_add, pk_mul, ↓reduceIte, nt_le, nf_le, nt_lt, nf_lt, nt_eq, nf_eq, meet_N', meet_P', meet_S', meet_Z', meet_B', meet_O', n_1, n_2, n_3, n_4, n_5, n_10, n_11]
          · by_cases e : j = i
            · rw [e] at w; exact hT w.2
            · exact hno j (by omega) w
      · refine ⟨(nI 0, nI (i + 1)), ?_, Or.inl ⟨rfl, fun j hj w => ?_⟩⟩
        · simp (disch := omega) only [d1, bitB (show s < 2 ^ 31 by omega) (show i < 32 by omega), Option.bind_some, aI_n, aL_n, aQ_n, sA_n, sL_n, csA_n, i_0, i_1, i_2, i_3, i_4, i_5, i_6, i_7, i_8, i_9, i_10, i_11, i_12, i_13, i_16, i_20, i_21, i_22, i_31, i_99, i_100, i_256, i_1000, nI_eq, nI_leI, nI_ltI, nI_add, pk_mul, ↓reduceIte, nt_le, nf_le, nt_lt, nf_lt, nt_eq, nf_eq, meet_N', meet_P', meet_S', meet_Z', meet_B', meet_O', n_1, n_2, n_3, n_4, n_5, n_10, n_11]
        · by_cases e : j = i
          · rw [e] at w; exact hb w.1
          · exact hno j (by omega) w
    · right
      refine ⟨nI 1, ?_, fun _ => rfl, fun w => absurd hyes w⟩
      unfold fX0_load_L22
      simp (disch := omega) only [d1, Option.bind_some, aI_n, aL_n, aQ_n, sA_n, sL_n, csA_n, i_0, i_1, i_2, i_3, i_4, i_5, i_6, i_7, i_8, i_9, i_10, i_11, i_12, i_13, i_16, i_20, i_21, i_22, i_31, i_99, i_100, i_256, i_1000, nI_eq, nI_leI, nI_ltI, nI_add, pk_mul, ↓reduceIte, nt_le, nf_le, nt_lt, nf_lt, nt_eq, nf_eq, meet_N', meet_P', meet_S', meet_Z', meet_B', meet_O', n_1, n_2, n_3, n_4, n_5, n_10, n_11]
  · rcases hst with ⟨rfl, hno⟩ | ⟨rfl, hyes⟩
    · refine ⟨nI 0, ?_, fun w => ?_, fun _ => rfl⟩
      · unfold fX0_load_L22
        simp (disch := omega) only [d1, Option.bind_some, aI_n, aL_n, aQ_n, sA_n, sL_n, csA_n, i_0, i_1, i_2, i_3, i_4, i_5, i_6, i_7, i_8, i_9, i_10, i_11, i_12, i_13, i_16, i_20, i_21, i_22, i_31, i_99, i_100, i_256, i_1000, nI_eq, nI_leI, nI_ltI, nI_add, pk_mul, ↓reduceIte, nt_le, nf_le, nt_lt, nf_lt, nt_eq, nf_eq, meet_N', meet_P', meet_S', meet_Z', meet_B', meet_O', n_1, n_2, n_3, n_4, n_5, n_10, n_11]
      · obtain ⟨i, hi, w1, w2⟩ := w
        exact absurd ⟨w1, w2⟩ (hno i hi)
    · refine ⟨nI 1, ?_, fun _ => rfl, fun w => absurd hyes w⟩
      unfold fX0_load_L22
      simp (disch := omega) only [d1, Option.bind_some, aI_n, aL_n, aQ_n, sA_n, sL_n, csA_n, i_0, i_1, i_2, i_3, i_4, i_5, i_6, i_7, i_8, i_9, i_10, i_11, i_12, i_13, i_16, i_20, i_21, i_22, i_31, i_99, i_100, i_256, i_1000, nI_eq, nI_leI, nI_ltI, nI_add, pk_mul, ↓reduceIte, nt_le, nf_le, nt_lt, nf_lt, nt_eq, nf_eq, meet_N', meet_P', meet_S', meet_Z', meet_B', meet_O', n_1, n_2, n_3, n_4, n_5, n_10, n_11]
/-- the list of the blocks that have no lesser one within them, below m -/
def Ls (n : Nat) (g : Nat → Nat) (x : Nat) (f : Nat → Int32) (M : Nat) (bl : Nat → Nat) (m : Nat) : Prop := M ≤ m ∧ (∀ j, j < M → f j = nI (bl j) ∧ bl j < m ∧ MinB (Bk n g x) n (bl j)) ∧ (∀ i j, i < j → j < M → bl i < bl j) ∧ ∀ t, t < m → MinB (Bk n g x) n t → ∃ j, j < M ∧ bl j = t
theorem loadB_n {o : Nat} {z : CS} {q n b x : Nat} {kd wt : Int32} {g : Nat → Nat} {f : Nat → Int32} (n8 : n ≤ 8) (hx : x < 2 ^ n) (d1 : dT z q = some (kd, nI n, wt, some b)) (u2 : dB z b = some (2 ^ n, f)) (u3 : ∀ x, f x = nI (g x)) (hg : ∀ x, g x ≤ 2) : ∃ e, fX0_load o z q (nI x) = some e ∧ (ZQ z e ∧ Tn n g x (e.2.1 9) (2 ^ n) ∧ ∃ M bl, e.1 8 = nI M ∧ Ls n g x (e.2.1 10) M bl (2 ^ n)) := by
  have p2 := p2le n8
  have HH := lp_count (body := fun u => fX0_load_L7 o u.2 q (nI x) u.1) (fun m s => s.1 = nI m ∧ ZQ z s.2 ∧ Tn n g x (s.2.2.1 9) m ∧ ∃ M bl, s.2.1 8 = nI M ∧ Ls n g x (s.2.2.1 10) M bl m) (2 ^ n) (fun e => ZQ z e ∧ Tn n g x (e.2.1 9) (2 ^ n) ∧ ∃ M bl, e.1 8 = nI M ∧ Ls n g x (e.2.1 10) M bl (2 ^ n)) (bigN_gt (by omega)) (fun m s hm hs => ?_) (fun s hs => ?_) (s := (nI 0, cI z 8 (nI 0))) ⟨rfl, ZQ.rf.i8, fun s hs => by omega, 0, fun _ => 0, cI_e, Nat.le_refl _, fun j hj => by omega, fun i j _ hj => by omega, fun t ht => by omega⟩
  · obtain ⟨e, e1, e2⟩ := HH
    refine ⟨e, ?_, e2⟩
    unfold fX0_load
    exact (congrArg (fun u => u.bind fun e15 => some e15) e1).trans rfl
  · obtain ⟨l, y⟩ := s
    obtain ⟨rfl, s1, s2, M, bl, s3, s4⟩ := hs
    simp only at s1 s2 s3 s4
    obtain ⟨l1, l2, l3, l4⟩ := s4
    have y1 := ZQ_T s1 d1
    obtain ⟨y2, y3⟩ := rd_f (ZQ_B s1 u2) u3 n8
    have hxm : x ^^^ m < 2 ^ n := Nat.xor_lt_two_pow hx hm
    obtain ⟨e6, w1, w2, w3⟩ := byP_n (o := o) (l2 := nI x) n8 y1 hm s2
    have g1 := hg x
    have g2 := hg (x ^^^ m)
    have teq := TB_eq (B := Bk n g x) n8 hm
    -- the new turns
    have tn : ∀ (v : Nat) (y' : CS), (TB (Bk n g x) m → v = 1) → (¬ TB (Bk n g x) m → v = 0) → y'.2.1 9 = upd (y.2.1 9) m (nI v) → Tn n g x (y'.2.1 9) (m + 1) := by
      intro v y' h1 h0 hy' s hs
      rw [hy']
      by_cases e : s = m
      · rw [e, pk_us]
        exact ⟨fun w => by rw [h1 w], fun w => by rw [h0 w]⟩
      · rw [pk_un e]
        exact s2 s (by omega)
    have keep : ¬ MinB (Bk n g x) n m → ∀ f', f' = y.2.1 10 → Ls n g x f' M bl (m + 1) := by
      rintro hno f' rfl
      refine ⟨by omega, fun j hj => ⟨(l2 j hj).1, by have := (l2 j hj).2.1; omega, (l2 j hj).2.2⟩, l3, fun t ht hmin => ?_⟩
      by_cases e : t = m
      · rw [e] at hmin; exact absurd hmin hno
      · exact l4 t (by omega) hmin
    unfold fX0_load_L7 fX0_load_L7_J95 fX0_load_L7_J112 fX0_load_L7_J117 fX0_load_L7_J148
    by_cases hB : g (x ^^^ m) = g x
    · have nB : ¬ Bk n g x m := fun w => w.2 hB
      have nM : ¬ MinB (Bk n g x) n m := fun w => nB w.1
      by_cases hP : byP (Bk n g x) n m
      · obtain rfl := w2 hP
        refine ⟨(nI (m + 1), cAr y 9 m (nI 1)), ?_, rfl, s1.up (by omega) (by omega), tn 1 _ (fun _ => rfl) (fun w => absurd (teq.mpr (Or.inl hP)) w) cAr_e, M, bl, s3, keep nM _ (cAr_n (by omega))⟩
        simp (disch := omega) only [y1, y2, w1, nI_xor, y3 _ hxm, y3 _ hx, hB, nar01 1 (by omega), Option.bind_some, aI_n, aL_n, aQ_n, sA_n, sL_n, csA_n, i_0, i_1, i_2, i_3, i_4, i_5, i_6, i_7, i_8, i_9, i_10, i_11, i_12, i_13, i_16, i_20, i_21, i_22, i_31, i_99, i_100, i_256, i_1000, nI_eq, nI_leI, nI_ltI, nI_add, pk_mul, ↓reduceIte, nt_le, nf_le, nt_lt, nf_lt, nt_eq, nf_eq, meet_N', meet_P', meet_S', meet_Z', meet_B', meet_O', n_1, n_2, n_3, n_4, n_5, n_10, n_11]
      · obtain rfl := w3 hP
        refine ⟨(nI (m + 1), cAr y 9 m (nI 0)), ?_, rfl, s1.up (by omega) (by omega), tn 0 _ (fun w => ?_) (fun _ => rfl) cAr_e, M, bl, s3, keep nM _ (cAr_n (by omega))⟩
        · simp (disch := omega) only [y1, y2, w1, nI_xor, y3 _ hxm, y3 _ hx, hB, nar01 0 (by omega), Option.bind_some, aI_n, aL_n, aQ_n, sA_n, sL_n, csA_n, i_0, i_1, i_2, i_3, i_4, i_5, i_6, i_7, i_8, i_9, i_10, i_11, i_12, i_13, i_16, i_20, i_21, i_22, i_31, i_99, i_100, i_256, i_1000, nI_eq, nI_leI, nI_ltI, nI_add, pk_mul, ↓reduceIte, nt_le, nf_le, nt_lt, nf_lt, nt_eq, nf_eq, meet_N', meet_P', meet_S', meet_Z', meet_B', meet_O', n_1, n_2, n_3, n_4, n_5, n_10, n_11]
        · rcases teq.mp w with a | a
          · exact absurd a hP
          · exact absurd a nB
    · have hBk : Bk n g x m := ⟨hm, hB⟩
      by_cases hP : byP (Bk n g x) n m
      · have nM : ¬ MinB (Bk n g x) n m := fun w => w.2 hP
        obtain rfl := w2 hP
        refine ⟨(nI (m + 1), cAr y 9 m (nI 1)), ?_, rfl, s1.up (by omega) (by omega), tn 1 _ (fun _ => rfl) (fun w => absurd (teq.mpr (Or.inl hP)) w) cAr_e, M, bl, s3, keep nM _ (cAr_n (by omega))⟩
        simp (disch := omega) only [y1, y2, w1, nI_xor, y3 _ hxm, y3 _ hx, nar01 1 (by omega), Option.bind_some, aI_n, aL_n, aQ_n, sA_n, sL_n, csA_n, i_0, i_1, i_2, i_3, i_4, i_5, i_6, i_7, i_8, i_9, i_10, i_11, i_12, i_13, i_16, i_20, i_21, i_22, i_31, i_99, i_100, i_256, i_1000, nI_eq, nI_leI, nI_ltI, nI_add, pk_mul, ↓reduceIte, nt_le, nf_le, nt_lt, nf_lt, nt_eq, nf_eq, meet_N', meet_P', meet_S', meet_Z', meet_B', meet_O', n_1, n_2, n_3, n_4, n_5, n_10, n_11]
      · obtain rfl := w3 hP
        have x8 : (cAr y 9 m (nI 1)).1 8 = nI M := s3
        have x8' : (cAr (cAr y 9 m (nI 1)) 10 M (nI m)).1 8 = nI M := s3
        refine ⟨(nI (m + 1), cI (cAr (cAr y 9 m (nI 1)) 10 M (nI m)) 8 (nI (M + 1))), ?_, rfl, ((s1.up (by omega) (by omega)).up (by omega) (by omega)).i8, tn 1 _ (fun _ => rfl) (fun w => absurd (teq.mpr (Or.inr hBk)) w) ?_, M + 1, fun j => if j = M then m else bl j, cI_e, by omega, fun j hj => ?_, fun i j hij hj => ?_, fun t ht hmin => ?_⟩
        · simp (disch := omega) only [y1, y2, w1, nI_xor, y3 _ hxm, y3 _ hx, nar01 1 (by omega), x8, x8', Option.bind_some, aI_n, aL_n, aQ_n, sA_n, sL_n, csA_n, i_0, i_1, i_2, i_3, i_4, i_5, i_6, i_7, i_8, i_9, i_10, i_11, i_12, i_13, i_16, i_20, i_21, i_22, i_31, i_99, i_100, i_256, i_1000, nI_eq, nI_leI, nI_ltI, nI_add, pk_mul, ↓reduceIte, nt_le, nf_le, nt_lt, nf_lt, nt_eq, nf_eq, meet_N', meet_P', meet_S', meet_Z', meet_B', meet_O', n_1, n_2, n_3, n_4, n_5, n_10, n_11]
        · show (cAr (cAr y 9 m (nI 1)) 10 M (nI m)).2.1 9 = _
          rw [cAr_n (by omega), cAr_e]
        · show (cAr (cAr y 9 m (nI 1)) 10 M (nI m)).2.1 10 j = nI (if j = M then m else bl j) ∧ (if j = M then m else bl j) < m + 1 ∧ MinB (Bk n g x) n (if j = M then m else bl j)
          by_cases e : j = M
          · rw [if_pos e, e]
            exact ⟨cAr_s, by omega, hBk, hP⟩
          · rw [if_neg e, cAr_j e, cAr_n (by omega)]
            have := l2 j (by omega)
            exact ⟨this.1, by omega, this.2.2⟩
        · show (if i = M then m else bl i) < (if j = M then m else bl j)
          rw [if_neg (show ¬ i = M by omega)]
          by_cases e : j = M
          · rw [if_pos e]
            exact (l2 i (by omega)).2.1
          · rw [if_neg e]
            exact l3 i j hij (by omega)
        · by_cases e : t = m
          · exact ⟨M, by omega, by show (if M = M then m else bl M) = t; rw [if_pos rfl, e]⟩
          · obtain ⟨j, hj, hb⟩ := l4 t (by omega) hmin
            exact ⟨j, by omega, by show (if j = M then m else bl j) = t; rw [if_neg (by omega), hb]⟩
  · obtain ⟨l, y⟩ := s
    obtain ⟨rfl, s1, s2, s3⟩ := hs
    have s1' : ZQ z y := s1
    obtain ⟨y2, y3⟩ := rd_f (ZQ_B s1' u2) u3 n8
    refine ⟨y, ?_, s1, s2, s3⟩
    unfold fX0_load_L7
    simp (disch := omega) only [ZQ_T s1' d1, y2, Option.bind_some, aI_n, aL_n, aQ_n, sA_n, sL_n, csA_n, i_0, i_1, i_2, i_3, i_4, i_5, i_6, i_7, i_8, i_9, i_10, i_11, i_12, i_13, i_16, i_20, i_21, i_22, i_31, i_99, i_100, i_256, i_1000, nI_eq, nI_leI, nI_ltI, nI_add, pk_mul, ↓reduceIte, nt_le, nf_le, nt_lt, nf_lt, nt_eq, nf_eq, meet_N', meet_P', meet_S', meet_Z', meet_B', meet_O', n_1, n_2, n_3, n_4, n_5, n_10, n_11]
