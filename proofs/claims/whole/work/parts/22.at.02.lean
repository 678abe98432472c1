theorem apart19 {o : Nat} {z : CS} {n x M s : Nat} {g : Nat → Nat} {bl W : Nat → Nat} {l2 : Int32} (n8 : n ≤ 8) (hs : s < 2 ^ n) (h8 : z.1 8 = nI M) (hl : Ls n g x (z.2.1 10) M bl (2 ^ n)) (hW : ∀ t, t < s → z.2.1 11 t = nI (W t)) (hb : ∀ t, t < s → W t ≤ t) : ∃ e, lpN (fun u => fX0_blocksApart_L19 o z l2 (nI s) u.1 u.2) bigN (nI 0, nI 0) = some e ∧ ∃ v, e = nI v ∧ v ≤ s ∧ IsMx (fun t => t &&& s = t ∧ MinB (Bk n g x) n t) (fun t => W (s - t) + 1) v := by
  have p2 := p2le n8
  obtain ⟨l1, l2', l3, l4⟩ := hl
  have done : ∀ j v, j ≤ M → (j = M ∨ s < bl j) → v ≤ s → (∀ i, i < j → bl i &&& s = bl i → W (s - bl i) + 1 ≤ v) → (v = 0 ∨ ∃ i, i < j ∧ bl i &&& s = bl i ∧ v = W (s - bl i) + 1) → IsMx (fun t => t &&& s = t ∧ MinB (Bk n g x) n t) (fun t => W (s - t) + 1) v := by
    intro j v hj hex hv h1 h2
    refine ⟨fun t ht => ?_, ?_⟩
    · have htl : t ≤ s := by rw [← ht.1]; exact Nat.and_le_right
      obtain ⟨i, hi, rfl⟩ := l4 t (by omega) ht.2
      refine h1 i ?_ ht.1
      by_cases hij : i < j
      · exact hij
      · exfalso
        rcases hex with a | a
        · omega
        · rcases Nat.lt_or_ge j i with c | c
          · have := l3 j i c hi; omega
          · have : i = j := by omega
            rw [this] at htl; omega
    · rcases h2 with a | ⟨i, a1, a2, a3⟩
      · exact Or.inl a
      · exact Or.inr ⟨bl i, ⟨a2, (l2' i (by omega)).2.2⟩, a3⟩
  refine lp_upto (fun j st => j ≤ M ∧ ∃ v, st = (nI v, nI j) ∧ v ≤ s ∧ (∀ i, i < j → bl i &&& s = bl i → W (s - bl i) + 1 ≤ v) ∧ (v = 0 ∨ ∃ i, i < j ∧ bl i &&& s = bl i ∧ v = W (s - bl i) + 1)) M _ (bigN_gt (by omega)) (fun j st hj hst => ?_) (fun st hst => ?_) ⟨Nat.zero_le _, 0, rfl, Nat.zero_le _, fun i hi => by omega, Or.inl rfl⟩
  · obtain ⟨hjM, v, rfl, hv, h1, h2⟩ := hst
    obtain ⟨b1, b2, b3⟩ := l2' j hj
    unfold fX0_blocksApart_L19 fX0_blocksApart_L19_J76
    by_cases hlt : s < bl j
    · right
      refine ⟨nI v, ?_, v, rfl, hv, done j v hjM (Or.inr hlt) hv h1 h2⟩
      simp (disch := omega) only [h8, b1, Option.bind_some, aI_n, aL_n, aQ_n, sA_n, sL_n, csA_n, i_0, i_1, i_2, i_3, i_4, i_5, i_6, i_7, i_8, i_9, i_10, i_11, i_12, i_13, i_16, i_20, i_21, i_22, i_31, i_99, i_100, i_256, i_1000, nI_eq, nI_leI, nI_ltI, nI_add, pk_mul, ↓reduceIte, nt_le, nf_le, nt_lt, nf_lt, nt_eq, nf_eq, meet_N', meet_P', meet_S', meet_Z', meet_B', meet_O', n_1, n_2, n_3, n_4, n_5, n_10, n_11]
    · left
      have an := and_not (x := s) (y := bl j) (by omega) (by omega)
      by_cases hsub : bl j &&& s = bl j
      · have c := an.mpr hsub
        have sx := sub_x (s := s) (by omega) (by omega) hsub
        have b0 : bl j ≠ 0 := fun w => Bk_0 (w ▸ b3.1)
        have rW := hW (s - bl j) (by omega)
        have bW := hb (s - bl j) (by omega)
        refine ⟨(nI (max v (W (s - bl j) + 1)), nI (j + 1)), ?_, by omega, max v (W (s - bl j) + 1), rfl, by omega, fun i hi hi2 => ?_, ?_⟩
        · by_cases q : v < W (s - bl j) + 1
          · rw [Nat.max_eq_right (by omega)]
            simp (disch := omega) only [h8, b1, c, nI_xor, sx.1, rW, Option.bind_some, aI_n, aL_n, aQ_n, sA_n, sL_n, csA_n, i_0, i_1, i_2, i_3, i_4, i_5, i_6, i_7, i_8, i_9, i_10, i_11, i_12, i_13, i_16, i_20, i_21, i_22, i_31, i_99, i_100, i_256, i_1000, nI_eq, nI_leI, nI_ltI, nI_add, pk_mul, ↓reduceIte, nt_le, nf_le, nt_lt, nf_lt, nt_eq, nf_eq, meet_N', meet_P', meet_S', meet_Z', meet_B', meet_O', n_1, n_2, n_3, n_4, n_5, n_10, n_11]
          · rw [Nat.max_eq_left (by omega)]
            simp (disch := omega) only [h8, b1, c, nI_xor, sx.1, rW, Option.bind_some, aI_n, aL_n, aQ_n, sA_n, sL_n, csA_n, i_0, i_1, i_2, i_3, i_4, i_5, i_6, i_7, i_8, i_9, i_10, i_11, i_12, i_13, i_16, i_20, i_21, i_22, i_31, i_99, i_100, i_256, i_1000, nI_eq, nI_leI, nI_ltI, nI_add, pk_mul, ↓reduceIte, nt_le, nf_le, nt_lt, nf_lt, nt_eq, nf_eq, meet_N', meet_P', meet_S', meet_Z', meet_B', meet_O', n_1, n_2, n_3, n_4, n_5, n_10, n_11]
        · by_cases e : i = j
          · rw [e]; exact Nat.le_max_right _ _
          · exact Nat.le_trans (h1 i (by omega) hi2) (Nat.le_max_left _ _)
        · right
          rcases Nat.le_total v (W (s - bl j) + 1) with q | q
          · exact ⟨j, by omega, hsub, Nat.max_eq_right q⟩
          · rcases h2 with a | ⟨i, a1, a2, a3⟩
            · exact ⟨j, by omega, hsub, Nat.max_eq_right (by omega)⟩
            · exact ⟨i, by omega, a2, by rw [Nat.max_eq_left q]; exact a3⟩
      · have c : ¬ nI (bl j) &&& (nI s ^^^ -nI 1) = nI 0 := fun w => hsub (an.mp w)
        refine ⟨(nI v, nI (j + 1)), ?_, by omega, v, rfl, hv, fun i hi hi2 => ?_, ?_⟩
        · simp (disch := omega) only [h8, b1, c, Option.bind_some, aI_n, aL_n, aQ_n, sA_n, sL_n, csA_n, i_0, i_1, i_2, i_3, i_4, i_5, i_6, i_7, i_8, i_9, i_10, i_11, i_12, i_13, i_16, i_20, i_21, i_22, i_31, i_99, i_100, i_256, i_1000, nI_eq, nI_leI, nI_ltI, nI_add, pk_mul, ↓reduceIte, nt_le, nf_le, nt_lt, nf_lt, nt_eq, nf_eq, meet_N', meet_P', meet_S', meet_Z', meet_B', meet_O', n_1, n_2, n_3, n_4, n_5, n_10, n_11]
        · by_cases e : i = j
          · rw [e] at hi2; exact absurd hi2 hsub
          · exact h1 i (by omega) hi2
        · rcases h2 with a | ⟨i, a1, a2, a3⟩
          · exact Or.inl a
          · exact Or.inr ⟨i, by omega, a2, a3⟩
  · obtain ⟨hjM, v, rfl, hv, h1, h2⟩ := hst
    refine ⟨nI v, ?_, v, rfl, hv, done M v (Nat.le_refl _) (Or.inl rfl) hv h1 h2⟩
    unfold fX0_blocksApart_L19
    simp (disch := omega) only [h8, Option.bind_some, aI_n, aL_n, aQ_n, sA_n, sL_n, csA_n, i_0, i_1, i_2, i_3, i_4, i_5, i_6, i_7, i_8, i_9, i_10, i_11, i_12, i_13, i_16, i_20, i_21, i_22, i_31, i_99, i_100, i_256, i_1000, nI_eq, nI_leI, nI_ltI, nI_add, pk_mul, ↓reduceIte, nt_le, nf_le, nt_lt, nf_lt, nt_eq, nf_eq, meet_N', meet_P', meet_S', meet_Z', meet_B', meet_O', n_1, n_2, n_3, n_4, n_5, n_10, n_11]
/-- values as far as m -/
def ApTo (n : Nat) (S : Nat → Prop) (V : Nat → Nat) (m : Nat) : Prop := ∀ s, s < m → V s ≤ s ∧ IsMx (fun t => t &&& s = t ∧ S t) (fun t => V (s - t) + 1) (V s)
theorem ApTo_s {n : Nat} {S : Nat → Prop} {V : Nat → Nat} {m v : Nat} (h0 : ¬ S 0) (h : ApTo n S V m) (hv : v ≤ m) (hm : IsMx (fun t => t &&& m = t ∧ S t) (fun t => V (m - t) + 1) v) : ApTo n S (fun t => if t = m then v else V t) (m + 1) := by
  intro s hs
  have sub : ∀ s t, t &&& s = t → t ≤ s := fun s t w => by rw [← w]; exact Nat.and_le_right
  have tr : ∀ s, s ≤ m → ∀ t, t &&& s = t ∧ S t → (if s - t = m then v else V (s - t)) = V (s - t) := by
    intro s hs t ht
    have := sub s t ht.1
    have t0 : t ≠ 0 := fun w => h0 (w ▸ ht.2)
    rw [if_neg (by omega)]
  have conv : ∀ s, s ≤ m → ∀ u, IsMx (fun t => t &&& s = t ∧ S t) (fun t => V (s - t) + 1) u → IsMx (fun t => t &&& s = t ∧ S t) (fun t => (if s - t = m then v else V (s - t)) + 1) u := by
    intro s hs u q
    refine ⟨fun t ht => by simp only; rw [tr s hs t ht]; exact q.1 t ht, ?_⟩
    rcases q.2 with a | ⟨t, a1, a2⟩
    · exact Or.inl a
    · exact Or.inr ⟨t, a1, by simp only; rw [tr s hs t a1]; exact a2⟩
  show (if s = m then v else V s) ≤ s ∧ IsMx (fun t => t &&& s = t ∧ S t) (fun t => (if s - t = m then v else V (s - t)) + 1) (if s = m then v else V s)
  by_cases e : s = m
  · rw [if_pos e]
    subst e
    exact ⟨hv, conv s (Nat.le_refl _) v hm⟩
  · rw [if_neg e]
    have := h s (by omega)
    exact ⟨this.1, conv s (by omega) _ this.2⟩
theorem ApTo_n {n : Nat} {S : Nat → Prop} {V : Nat → Nat} (h : ApTo n S V (2 ^ n)) : IsAp n S V := fun s hs => (h s hs).2
theorem apart_n {o : Nat} {z : CS} {q n b x M : Nat} {kd wt : Int32} {g bl : Nat → Nat} {f : Nat → Int32} (n8 : n ≤ 8) (d1 : dT z q = some (kd, nI n, wt, some b)) (u2 : dB z b = some (2 ^ n, f)) (u3 : ∀ x, f x = nI (g x)) (h8 : z.1 8 = nI M) (hl : Ls n g x (z.2.1 10) M bl (2 ^ n)) : ∃ W e, fX0_blocksApart o z q = some (nI (W (2 ^ n - 1)), e) ∧ ZQ z e ∧ IsAp n (MinB (Bk n g x) n) W := by
  have p2 := p2le n8
  have pp := p2pos (n := n)
  have m0 : ¬ MinB (Bk n g x) n 0 := fun w => Bk_0 w.1
  obtain ⟨y2, y3⟩ := rd_f u2 u3 n8
  have HH := lp_count (body := fun u => fX0_blocksApart_L8 o u.2 (nI (2 ^ n)) u.1) (fun m s => s.1 = nI m ∧ (ZQ z s.2 ∧ s.2.1 8 = nI M ∧ s.2.2.1 10 = z.2.1 10) ∧ ∃ W, ApTo n (MinB (Bk n g x) n) W m ∧ ∀ t, t < m → s.2.2.1 11 t = nI (W t)) (2 ^ n) (fun e => ZQ z e ∧ ∃ W, ApTo n (MinB (Bk n g x) n) W (2 ^ n) ∧ ∀ t, t < 2 ^ n → e.2.1 11 t = nI (W t)) (bigN_gt (by omega)) (fun m s hm hs => ?_) (fun s hs => ?_) (s := (nI 0, z)) ⟨rfl, ⟨ZQ.rf, h8, rfl⟩, fun _ => 0, fun s hs => by omega, fun t ht => by omega⟩
  · obtain ⟨e, e1, e2, W, e3, e4⟩ := HH
    refine ⟨W, e, ?_, e2, ApTo_n e3⟩
    unfold fX0_blocksApart
    simp (disch := omega) only [d1, y2, e1, pk_sub, e4 (2 ^ n - 1) (by omega), Option.bind_some, aI_n, aL_n, aQ_n, sA_n, sL_n, csA_n, i_0, i_1, i_2, i_3, i_4, i_5, i_6, i_7, i_8, i_9, i_10, i_11, i_12, i_13, i_16, i_20, i_21, i_22, i_31, i_99, i_100, i_256, i_1000, nI_eq, nI_leI, nI_ltI, nI_add, pk_mul, ↓reduceIte, nt_le, nf_le, nt_lt, nf_lt, nt_eq, nf_eq, meet_N', meet_P', meet_S', meet_Z', meet_B', meet_O', n_1, n_2, n_3, n_4, n_5, n_10, n_11]
  · obtain ⟨l, y⟩ := s
    obtain ⟨rfl, ⟨s1, s2, s3⟩, W, s4, s5⟩ := hs
    simp only at s1 s2 s3 s5
    have hl' : Ls n g x (y.2.1 10) M bl (2 ^ n) := by rw [s3]; exact hl
    obtain ⟨e8, w1, v, rfl, w2, w3⟩ := apart19 (o := o) (l2 := nI (2 ^ n)) n8 hm s2 hl' s5 (fun t ht => (s4 t ht).1)
    refine ⟨(nI (m + 1), cAr y 11 m (nI v)), ?_, rfl, ⟨s1.up (by omega) (by omega), s2, ?_⟩, fun t => if t = m then v else W t, ApTo_s m0 s4 w2 w3, fun t ht => ?_⟩
    · unfold fX0_blocksApart_L8
      simp (disch := omega) only [w1, Option.bind_some, aI_n, aL_n, aQ_n, sA_n, sL_n, csA_n, i_0, i_1, i_2, i_3, i_4, i_5, i_6, i_7, i_8, i_9, i_10, i_11, i_12, i_13, i_16, i_20, i_21, i_22, i_31, i_99, i_100, i_256, i_1000, nI_eq, nI_leI, nI_ltI, nI_add, pk_mul, ↓reduceIte, nt_le, nf_le, nt_lt, nf_lt, nt_eq, nf_eq, meet_N', meet_P', meet_S', meet_Z', meet_B', meet_O', n_1, n_2, n_3, n_4, n_5, n_10, n_11]
    · show (cAr y 11 m (nI v)).2.1 10 = _
      rw [cAr_n (by omega)]; exact s3
    · show (cAr y 11 m (nI v)).2.1 11 t = nI (if t = m then v else W t)
      by_cases e : t = m
      · rw [if_pos e, e]; exact cAr_s
      · rw [if_neg e, cAr_j e]; exact s5 t (by omega)
  · obtain ⟨l, y⟩ := s
    obtain ⟨rfl, ⟨s1, s2, s3⟩, s4⟩ := hs
    refine ⟨y, ?_, s1, s4⟩
    unfold fX0_blocksApart_L8
    simp (disch := omega) only [Option.bind_some, aI_n, aL_n, aQ_n, sA_n, sL_n, csA_n, i_0, i_1, i_2, i_3, i_4, i_5, i_6, i_7, i_8, i_9, i_10, i_11, i_12, i_13, i_16, i_20, i_21, i_22, i_31, i_99, i_100, i_256, i_1000, nI_eq, nI_leI, nI_ltI, nI_add, pk_mul, ↓reduceIte, nt_le, nf_le, nt_lt, nf_lt, nt_eq, nf_eq, meet_N', meet_P', meet_S', meet_Z', meet_B', meet_O', n_1, n_2, n_3, n_4, n_5, n_10, n_11]
theorem pop_ub {n s : Nat} (n8 : n ≤ 8) (hs : s < 2 ^ n) : pop s ≤ n := by
  rw [← pop_n n8 hs]
  exact pop9_le s n
theorem proofB_n {o : Nat} {z : CS} {q n b x : Nat} {kd wt : Int32} {g : Nat → Nat} {f : Nat → Int32} (n8 : n ≤ 8) (d1 : dT z q = some (kd, nI n, wt, some b)) (u2 : dB z b = some (2 ^ n, f)) (u3 : ∀ x, f x = nI (g x)) (ht : Tn n g x (z.2.1 9) (2 ^ n)) : ∃ v, fX0_proofBits o z q = some (nI (n - v)) ∧ v ≤ n ∧ IsMx (fun s => s < 2 ^ n ∧ ¬ TB (Bk n g x) s) pop v := by
  have p2 := p2le n8
  obtain ⟨y2, y3⟩ := rd_f u2 u3 n8
  have HH := lp_count (body := fun u => fX0_proofBits_L4 o z q u.1 u.2) (fun m st => ∃ v, st = (nI v, nI m) ∧ v ≤ n ∧ IsMx (fun s => s < m ∧ ¬ TB (Bk n g x) s) pop v) (2 ^ n) (fun e => ∃ v, e = nI v ∧ v ≤ n ∧ IsMx (fun s => s < 2 ^ n ∧ ¬ TB (Bk n g x) s) pop v) (bigN_gt (by omega)) (fun m st hm hst => ?_) (fun st hst => ?_) (s := (nI 0, nI 0)) ⟨0, rfl, Nat.zero_le _, fun t ht => by omega, Or.inl rfl⟩
  · obtain ⟨e, e1, v, rfl, e2, e3⟩ := HH
    refine ⟨v, ?_, e2, e3⟩
    unfold fX0_proofBits
    refine (congrArg (fun u => u.bind fun e6 => (dT z q).bind fun t7 => some (t7.2.1 - e6)) e1).trans ?_
    simp (disch := omega) only [d1, pk_sub, Option.bind_some, aI_n, aL_n, aQ_n, sA_n, sL_n, csA_n, i_0, i_1, i_2, i_3, i_4, i_5, i_6, i_7, i_8, i_9, i_10, i_11, i_12, i_13, i_16, i_20, i_21, i_22, i_31, i_99, i_100, i_256, i_1000, nI_eq, nI_leI, nI_ltI, nI_add, pk_mul, ↓reduceIte, nt_le, nf_le, nt_lt, nf_lt, nt_eq, nf_eq, meet_N', meet_P', meet_S', meet_Z', meet_B', meet_O', n_1, n_2, n_3, n_4, n_5, n_10, n_11]
  · obtain ⟨v, rfl, hv, h1, h2⟩ := hst
    have tm := ht m hm
    have pu := pop_ub n8 hm
    unfold fX0_proofBits_L4 fX0_proofBits_L4_J31
    by_cases hT : TB (Bk n g x) m
    · refine ⟨(nI v, nI (m + 1)), ?_, v, rfl, hv, fun t ht' => ?_, ?_⟩
      · simp (disch := omega) only [d1, y2, tm.1 hT, Option.bind_some, aI_n, aL_n, aQ_n, sA_n, sL_n, csA_n, i_0, i_1, i_2, i_3, i_4, i_5, i_6, i_7, i_8, i_9, i_10, i_11, i_12, i_13, i_16, i_20, i_21, i_22, i_31, i_99, i_100, i_256, i_1000, nI_eq, nI_leI, nI_ltI, nI_add, pk_mul, ↓reduceIte, nt_le, nf_le, nt_lt, nf_lt, nt_eq, nf_eq, meet_N', meet_P', meet_S', meet_Z', meet_B', meet_O', n_1, n_2, n_3, n_4, n_5, n_10, n_11]
      · by_cases e : t = m
        · rw [e] at ht'; exact absurd hT ht'.2
        · exact h1 t ⟨by omega, ht'.2⟩
      · rcases h2 with a | ⟨t, a1, a2⟩
        · exact Or.inl a
        · exact Or.inr ⟨t, ⟨by omega, a1.2⟩, a2⟩
    · refine ⟨(nI (max v (pop m)), nI (m + 1)), ?_, max v (pop m), rfl, by omega, fun t ht' => ?_, ?_⟩
      · by_cases q : v < pop m
        · rw [Nat.max_eq_right (by omega)]
          simp (disch := omega) only [d1, y2, tm.2 hT, bitC m (by omega), Option.bind_some, aI_n, aL_n, aQ_n, sA_n, sL_n, csA_n, i_0, i_1, i_2, i_3, i_4, i_5, i_6, i_7, i_8, i_9, i_10, i_11, i_12, i_13, i_16, i_20, i_21, i_22, i_31, i_99, i_100, i_256, i_1000, nI_eq, nI_leI, nI_ltI, nI_add, pk_mul, ↓reduceIte, nt_le, nf_le, nt_lt, nf_lt, nt_eq, nf_eq, meet_N', meet_P', meet_S', meet_Z', meet_B', meet_O', n_1, n_2, n_3, n_4, n_5, n_10, n_11]
        · rw [Nat.max_eq_left (by omega)]
          simp (disch := omega) only [d1, y2, tm.2 hT, bitC m (by omega), Option.bind_some, aI_n, aL_n, aQ_n, sA_n, sL_n, csA_n, i_0, i_1, i_2, i_3, i_4, i_5, i_6, i_7, i_8, i_9, i_10, i_11, i_12, i_13, i_16, i_20, i_21, i_22, i_31, i_99, i_100, i_256, i_1000, nI_eq, nI_leI, nI_ltI, nI_add, pk_mul, ↓reduceIte, nt_le, nf_le, nt_lt, nf_lt, nt_eq, nf_eq, meet_N', meet_P', meet_S', meet_Z', meet_B', meet_O', n_1, n_2, n_3, n_4, n_5, n_10, n_11]
      · by_cases e : t = m
        · rw [e]; exact Nat.le_max_right _ _
        · exact Nat.le_trans (h1 t ⟨by omega, ht'.2⟩) (Nat.le_max_left _ _)
      · rcases Nat.le_total v (pop m) with q | q
        · exact Or.inr ⟨m, ⟨by omega, hT⟩, Nat.max_eq_right q⟩
        · rcases h2 with a | ⟨t, a1, a2⟩
          · exact Or.inl (by rw [Nat.max_eq_left q]; exact a)
          · exact Or.inr ⟨t, ⟨by omega, a1.2⟩, by rw [Nat.max_eq_left q]; exact a2⟩
  · obtain ⟨v, rfl, hv, h1⟩ := hst
    refine ⟨nI v, ?_, v, rfl, hv, h1⟩
    unfold fX0_proofBits_L4
    simp (disch := omega) only [d1, y2, Option.bind_some, aI_n, aL_n, aQ_n, sA_n, sL_n, csA_n, i_0, i_1, i_2, i_3, i_4, i_5, i_6, i_7, i_8, i_9, i_10, i_11, i_12, i_13, i_16, i_20, i_21, i_22, i_31, i_99, i_100, i_256, i_1000, nI_eq, nI_leI, nI_ltI, nI_add, pk_mul, ↓reduceIte, nt_le, nf_le, nt_lt, nf_lt, nt_eq, nf_eq, meet_N', meet_P', meet_S', meet_Z', meet_B', meet_O', n_1, n_2, n_3, n_4, n_5, n_10, n_11]
/-- how many bits are sensitive -/
def sns (g : Nat → Nat) (x : Nat) : Nat → Nat
  | 0 => 0
  | k + 1 => sns g x k + if g x = g (x ^^^ 2 ^ k) then 0 else 1
theorem sns_le (g : Nat → Nat) (x k : Nat) : sns g x k ≤ k := by
  induction k with
  | zero => exact Nat.le_refl _
  | succ k ih =>
    show sns g x k + (if g x = g (x ^^^ 2 ^ k) then 0 else 1) ≤ k + 1
    split <;> omega
theorem sens9 {o : Nat} {z : CS} {q n b x : Nat} {kd wt : Int32} {g : Nat → Nat} {f : Nat → Int32} (n8 : n ≤ 8) (hx : x < 2 ^ n) (d1 : dT z q = some (kd, nI n, wt, some b)) (u2 : dB z b = some (2 ^ n, f)) (u3 : ∀ x, f x = nI (g x)) (hg : ∀ x, g x ≤ 2) : fX0_sensitiveBits o z q (nI x) = some (nI (sns g x n)) := by
  have p2 := p2le n8
  obtain ⟨y2, y3⟩ := rd_f u2 u3 n8
  have key : lpN (fun u => fX0_sensitiveBits_L4 o z q (nI x) u.1 u.2) bigN (nI 0, nI 0) = some (nI (sns g x n)) := by
    refine lp_det (body := fun u => fX0_sensitiveBits_L4 o z q (nI x) u.1 u.2) (fun i => (nI (sns g x i), nI i)) n (bigN_gt (by omega)) (fun i hi => ?_) ?_
    · have hxl : x ^^^ 2 ^ i < 2 ^ n := Nat.xor_lt_two_pow hx (Nat.pow_lt_pow_right (by omega) hi)
      have g1 := hg x
      have g2 := hg (x ^^^ 2 ^ i)
      unfold fX0_sensitiveBits_L4 fX0_sensitiveBits_L4_J37
      by_cases c : g x = g (x ^^^ 2 ^ i)
      · rw [show sns g x (i + 1) = sns g x i + 0 by show _ + (if _ then 0 else 1) = _; rw [if_pos c]]
        simp (disch := omega) only [d1, y3 x hx, shl1' i (by omega), nI_xor, y3 _ hxl, Option.bind_some, aI_n, aL_n, aQ_n, sA_n, sL_n, csA_n, i_0, i_1, i_2, i_3, i_4, i_5, i_6, i_7, i_8, i_9, i_10, i_11, i_12, i_13, i_16, i_20, i_21, i_22, i_31, i_99, i_100, i_256, i_1000, nI_eq, nI_leI, nI_ltI, nI_add, pk_mul, ↓reduceIte, nt_le, nf_le, nt_lt, nf_lt, nt_eq, nf_eq, meet_N', meet_P', meet_S', meet_Z', meet_B', meet_O', n_1, n_2, n_3, n_4, n_5, n_10, n_11]
      · rw [show sns g x (i + 1) = sns g x i + 1 by show _ + (if _ then 0 else 1) = _; rw [if_neg c]]
        simp (disch := omega) only [d1, y3 x hx, shl1' i (by omega), nI_xor, y3 _ hxl, Option.bind_some, aI_n, aL_n, aQ_n, sA_n, sL_n, csA_n, i_0, i_1, i_2, i_3, i_4, i_5, i_6, i_7, i_8, i_9, i_10, i_11, i_12, i_13, i_16, i_20, i_21, i_22, i_31, i_99, i_100, i_256, i_1000, nI_eq, nI_leI, nI_ltI, nI_add, pk_mul, ↓reduceIte, nt_le, nf_le, nt_lt, nf_lt, nt_eq, nf_eq, meet_N', meet_P', meet_S', meet_Z', meet_B', meet_O', n_1, n_2, n_3, n_4, n_5, n_10, n_11]
    · unfold fX0_sensitiveBits_L4
      simp (disch := omega) only [d1, Option.bind_some, aI_n, aL_n, aQ_n, sA_n, sL_n, csA_n, i_0, i_1, i_2, i_3, i_4, i_5, i_6, i_7, i_8, i_9, i_10, i_11, i_12, i_13, i_16, i_20, i_21, i_22, i_31, i_99, i_100, i_256, i_1000, nI_eq, nI_leI, nI_ltI, nI_add, pk_mul, ↓reduceIte, nt_le, nf_le, nt_lt, nf_lt, nt_eq, nf_eq, meet_N', meet_P', meet_S', meet_Z', meet_B', meet_O', n_1, n_2, n_3, n_4, n_5, n_10, n_11]
  unfold fX0_sensitiveBits
  exact (congrArg (fun u => u.bind fun e5 => some e5) key).trans rfl
theorem sens10 {r : RS} {p n x : Nat} {kd wt : Int32} {g : Nat → Nat} (hp : p < 16) (t2 : TkR r p n kd wt g) (n8 : n ≤ 8) (hx : x < 2 ^ n) (hg : ∀ x, g x ≤ 2) : fX10_sensitive r (nI p) (nI x) = some (nI (sns g x n)) := by
  have p2 := p2le n8
  have key : lpN (fun u => fX10_sensitive_L5 r (nI p) (nI x) u.1 u.2) bigN (nI 0, nI 0) = some (nI (sns g x n)) := by
    refine lp_det (body := fun u => fX10_sensitive_L5 r (nI p) (nI x) u.1 u.2) (fun i => (nI (sns g x i), nI i)) n (bigN_gt (by omega)) (fun i hi => ?_) ?_
    · have hxl : x ^^^ 2 ^ i < 2 ^ n := Nat.xor_lt_two_pow hx (Nat.pow_lt_pow_right (by omega) hi)
      have g1 := hg x
      have g2 := hg (x ^^^ 2 ^ i)
      unfold fX10_sensitive_L5 fX10_sensitive_L5_J42
      by_cases c : g x = g (x ^^^ 2 ^ i)
      · rw [show sns g x (i + 1) = sns g x i + 0 by show _ + (if _ then 0 else 1) = _; rw [if_pos c]]
        simp (disch := omega) only [t2.1, say0_n hp t2 n8 hx, shl1' i (by omega), nI_xor, say0_n hp t2 n8 hxl, Option.bind_some, aI_n, aL_n, aQ_n, sA_n, sL_n, csA_n, i_0, i_1, i_2, i_3, i_4, i_5, i_6, i_7, i_8, i_9, i_10, i_11, i_12, i_13, i_16, i_20, i_21, i_22, i_31, i_99, i_100, i_256, i_1000, nI_eq, nI_leI, nI_ltI, nI_add, pk_mul, ↓reduceIte, nt_le, nf_le, nt_lt, nf_lt, nt_eq, nf_eq, meet_N', meet_P', meet_S', meet_Z', meet_B', meet_O', n_1, n_2, n_3, n_4, n_5, n_10, n_11]
      · rw [show sns g x (i + 1) = sns g x i + 1 by show _ + (if _ then 0 else 1) = _; rw [if_neg c]]
        simp (disch := omega) only [t2.1, say0_n hp t2 n8 hx, shl1' i (by omega), nI_xor, say0_n hp t2 n8 hxl, Option.bind_some, aI_n, aL_n, aQ_n, sA_n, sL_n, csA_n, i_0, i_1, i_2, i_3, i_4, i_5, i_6, i_7, i_8, i_9, i_10, i_11, i_12, i_13, i_16, i_20, i_21, i_22, i_31, i_99, i_100, i_256, i_1000, nI_eq, nI_leI, nI_ltI, nI_add, pk_mul, ↓reduceIte, nt_le, nf_le, nt_lt, nf_lt, nt_eq, nf_eq, meet_N', meet_P', meet_S', meet_Z', meet_B', meet_O', n_1, n_2, n_3, n_4, n_5, n_10, n_11]
    · unfold fX10_sensitive_L5
      simp (disch := omega) only [t2.1, Option.bind_some, aI_n, aL_n, aQ_n, sA_n, sL_n, csA_n, i_0, i_1, i_2, i_3, i_4, i_5, i_6, i_7, i_8, i_9, i_10, i_11, i_12, i_13, i_16, i_20, i_21, i_22, i_31, i_99, i_100, i_256, i_1000, nI_eq, nI_leI, nI_ltI, nI_add, pk_mul, ↓reduceIte, nt_le, nf_le, nt_lt, nf_lt, nt_eq, nf_eq, meet_N', meet_P', meet_S', meet_Z', meet_B', meet_O', n_1, n_2, n_3, n_4, n_5, n_10, n_11]
  unfold fX10_sensitive
  exact (congrArg (fun u => u.bind fun e5 => some e5) key).trans rfl
