theorem df_sub {Y cov : Nat} (hc : cov < 65536) : df cov Y = 0 ↔ cov &&& Y = cov := by
  have dl := df_le cov Y
  rw [sub_bt (n := 16) hc]
  constructor
  · intro h j hj hb
    have b := bt_df (l := cov) (s := Y) (j := j) (by omega)
    rw [h, bt_z, hb] at b
    rcases bt01 Y j with y | y
    · rw [y] at b; simp at b
    · exact y
  · intro h
    refine zero_bt (by omega) (fun x hx hb => ?_)
    rw [bt_df (by omega)] at hb
    by_cases q : bt cov x = 1 ∧ bt Y x = 0
    · have := h x hx q.1
      omega
    · rw [if_neg q] at hb; omega
def F25 (r rr : RS) (cov : Nat) : Prop := rr.1 = r.1 ∧ rr.2.2 = r.2.2 ∧ (∀ k, k ≠ 25 → rr.2.1 k = r.2.1 k) ∧ ∀ j, j ≠ cov → rr.2.1 25 j = r.2.1 25 j
theorem F25.rf {r : RS} {cov : Nat} : F25 r r cov := ⟨rfl, rfl, fun _ _ => rfl, fun _ _ => rfl⟩
theorem F25.up {r rr : RS} {cov : Nat} {x : Int32} (h : F25 r rr cov) : F25 r (rA rr 25 cov x) cov := ⟨h.1, h.2.1, fun k hk => by rw [rA_n hk]; exact h.2.2.1 k hk, fun j hj => by rw [rA_j hj]; exact h.2.2.2 j hj⟩
theorem F25.tr {x y z : RS} {cov : Nat} (h : F25 x y cov) (h' : F25 y z cov) : F25 x z cov := ⟨h'.1.trans h.1, h'.2.1.trans h.2.1, fun k hk => (h'.2.2.1 k hk).trans (h.2.2.1 k hk), fun j hj => (h'.2.2.2 j hj).trans (h.2.2.2 j hj)⟩
theorem F25.rb {r rr : RS} {cov n : Nat} {g : Nat → Nat} (h : F25 r rr cov) (hB : RBm n g r) : RBm n g rr := ⟨fun k hk => by rw [h.2.2.1 11 (by omega)]; exact hB.1 k hk, fun c hc => by rw [h.2.2.1 12 (by omega)]; exact hB.2.1 c hc, fun c hc => by rw [h.2.2.1 27 (by omega)]; exact hB.2.2 c hc⟩
theorem form158 {r : RS} {n cov : Nat} {g : Nat → Nat} (hn : n ≤ 4) (hg : ∀ x, g x ≤ 2) (hB : RBm n g r) (hs : cov &&& Ym n g = cov) (hne : cov ≠ Ym n g) (hN : Nd25 n g (r.2.1 25) (cov + 1)) (h100 : r.2.1 25 cov = nI 100) : ∃ e, lpN (fun u => fX10_form_L158 u.2 (nI n) (nI (Ym n g)) (nI cov) u.1) bigN (nI 0, r) = some e ∧ F25 r e cov ∧ ∃ k, k ≤ 16 ∧ IsMin (okc n g) (IMc n) (3 ^ n) (df (Ym n g) cov) k ∧ e.2.1 25 cov = nI k := by
  have p8 := p81 hn
  have Y16 := Ym_16 hn g
  have cle : cov ≤ Ym n g := by rw [← hs]; exact Nat.and_le_right
  have dl := df_le (Ym n g) cov
  have l0 : df (Ym n g) cov ≠ 0 := fun q => hne (df_0 Y16 hs q)
  obtain ⟨K, K16, hK⟩ := Min_ex16 (g := g) hn (show df (Ym n g) cov < 65536 by omega) (fun x hx hb => Y_ok hx hb)
  have K1 : 1 ≤ K := by
    rcases Nat.eq_zero_or_pos K with q | q
    · exact absurd ((Min_0 hK).mp q) l0
    · exact q
  have nxt : ∀ c, c < 3 ^ n → okc n g c ∧ IMc n c &&& lw (df (Ym n g) cov) ≠ 0 → ∃ m', m' ≤ 16 ∧ IsMin (okc n g) (IMc n) (3 ^ n) (df (df (Ym n g) cov) (IMc n c)) m' ∧ r.2.1 25 (cov ||| (IMc n c &&& Ym n g)) = nI m' ∧ cov < cov ||| (IMc n c &&& Ym n g) ∧ cov ||| (IMc n c &&& Ym n g) ≤ Ym n g := fun c hc w => by
    have gt := cov_gt Y16 hs w.2
    have su := cov_sub (m := IMc n c) Y16 hs
    obtain ⟨m', a1, a2, a3⟩ := hN (cov ||| (IMc n c &&& Ym n g)) (by omega) su
    rw [cov_df Y16] at a2
    exact ⟨m', a1, a2, a3, gt, by rw [← su]; exact Nat.and_le_right⟩
  have HH := lp_count (body := fun u => fX10_form_L158 u.2 (nI n) (nI (Ym n g)) (nI cov) u.1) (fun c s => ∃ rr v, s = (nI c, rr) ∧ F25 r rr cov ∧ rr.2.1 25 cov = nI v ∧ v ≤ 100 ∧ (∀ c', c' < c → (okc n g c' ∧ IMc n c' &&& lw (df (Ym n g) cov) ≠ 0) → ∀ m', IsMin (okc n g) (IMc n) (3 ^ n) (df (df (Ym n g) cov) (IMc n c')) m' → v ≤ m' + 1) ∧ (v = 100 ∨ ∃ c', c' < c ∧ (okc n g c' ∧ IMc n c' &&& lw (df (Ym n g) cov) ≠ 0) ∧ ∃ m', IsMin (okc n g) (IMc n) (3 ^ n) (df (df (Ym n g) cov) (IMc n c')) m' ∧ v = m' + 1)) (3 ^ n) (fun e => F25 r e cov ∧ ∃ k, k ≤ 16 ∧ IsMin (okc n g) (IMc n) (3 ^ n) (df (Ym n g) cov) k ∧ e.2.1 25 cov = nI k) (bigN_gt (by omega)) (fun c s hc hs' => ?_) (fun s hs' => ?_) (s := (nI 0, r)) ⟨r, 100, rfl, F25.rf, h100, Nat.le_refl _, fun c' h => by omega, Or.inl rfl⟩
  · exact HH
  · obtain ⟨rr, v, rfl, s1, s2, s3, s4, s5⟩ := hs'
    have hB' := s1.rb hB
    have inx := isNext_n (cov := cov) hn hg hB' hc Y16
    have pw := hB'.1 n (by omega)
    unfold fX10_form_L158 fX10_form_L158_J246
    by_cases w : okc n g c ∧ IMc n c &&& lw (df (Ym n g) cov) ≠ 0
    · obtain ⟨m', a1, a2, a3, a4, a5⟩ := nxt c hc w
      have v27 := hB'.2.2 c hc
      have r25 : rr.2.1 25 (cov ||| (IMc n c &&& Ym n g)) = nI m' := by rw [s1.2.2.2 _ (by omega)]; exact a3
      by_cases q : v ≤ 1 + m'
      · refine ⟨(nI (c + 1), rr), ?_, rr, v, rfl, s1, s2, s3, fun c' h1 h2 m2 h3 => ?_, ?_⟩
        · simp (disch := omega) only [pw, inx.1 w, v27, nI_and, nI_or, r25, s2, Option.bind_some, aI_n, aL_n, aQ_n, sA_n, sL_n, csA_n, i_0, i_1, i_2, i_3, i_4, i_5, i_6, i_7, i_8, i_9, i_10, i_11, i_12, i_13, i_16, i_20, i_21, i_22, i_31, i_99, i_100, i_256, i_1000, nI_eq, nI_leI, nI_ltI, nI_add, pk_mul, ↓reduceIte, nt_le, nf_le, nt_lt, nf_lt, nt_eq, nf_eq, meet_N', meet_P', meet_S', meet_Z', meet_B', meet_O', n_1, n_2, n_3, n_4, n_5, n_10, n_11]
        · by_cases e : c' = c
          · rw [e] at h3
            have := IsMin_u h3 a2
            omega
          · exact s4 c' (by omega) h2 m2 h3
        · rcases s5 with b | ⟨c', b1, b2⟩
          · exact Or.inl b
          · exact Or.inr ⟨c', by omega, b2⟩
      · refine ⟨(nI (c + 1), rA rr 25 cov (nI (1 + m'))), ?_, rA rr 25 cov (nI (1 + m')), 1 + m', rfl, s1.up, rA_s, by omega, fun c' h1 h2 m2 h3 => ?_, Or.inr ⟨c, by omega, w, m', a2, by omega⟩⟩
        · simp (disch := omega) only [pw, inx.1 w, v27, nI_and, nI_or, r25, s2, Option.bind_some, aI_n, aL_n, aQ_n, sA_n, sL_n, csA_n, i_0, i_1, i_2, i_3, i_4, i_5, i_6, i_7, i_8, i_9, i_10, i_11, i_12, i_13, i_16, i_20, i_21, i_22, i_31, i_99, i_100, i_256, i_1000, nI_eq, nI_leI, nI_ltI, nI_add, pk_mul, ↓reduceIte, nt_le, nf_le, nt_lt, nf_lt, nt_eq, nf_eq, meet_N', meet_P', meet_S', meet_Z', meet_B', meet_O', n_1, n_2, n_3, n_4, n_5, n_10, n_11]
        · by_cases e : c' = c
          · rw [e] at h3
            have := IsMin_u h3 a2
            omega
          · have := s4 c' (by omega) h2 m2 h3
            omega
    · refine ⟨(nI (c + 1), rr), ?_, rr, v, rfl, s1, s2, s3, fun c' h1 h2 m2 h3 => ?_, ?_⟩
      · simp (disch := omega) only [pw, inx.2 w, Option.bind_some, aI_n, aL_n, aQ_n, sA_n, sL_n, csA_n, i_0, i_1, i_2, i_3, i_4, i_5, i_6, i_7, i_8, i_9, i_10, i_11, i_12, i_13, i_16, i_20, i_21, i_22, i_31, i_99, i_100, i_256, i_1000, nI_eq, nI_leI, nI_ltI, nI_add, pk_mul, ↓reduceIte, nt_le, nf_le, nt_lt, nf_lt, nt_eq, nf_eq, meet_N', meet_P', meet_S', meet_Z', meet_B', meet_O', n_1, n_2, n_3, n_4, n_5, n_10, n_11]
      · by_cases e : c' = c
        · rw [e] at h2; exact absurd h2 w
        · exact s4 c' (by omega) h2 m2 h3
      · rcases s5 with b | ⟨c', b1, b2⟩
        · exact Or.inl b
        · exact Or.inr ⟨c', by omega, b2⟩
  · obtain ⟨rr, v, rfl, s1, s2, s3, s4, s5⟩ := hs'
    have pw := (s1.rb hB).1 n (by omega)
    have vK : v = K := by
      have up : v ≤ K := by
        have h1 := hK.1
        rw [show K = (K - 1) + 1 by omega] at h1
        rcases h1 with a | ⟨c, c1, c2, c3, c4⟩
        · exact absurd a l0
        · obtain ⟨m', a1, a2, -⟩ := nxt c c1 ⟨c2, c3⟩
          have le : m' ≤ K - 1 := by
            rcases Nat.lt_or_ge (K - 1) m' with q | q
            · exact absurd c4 (a2.2 (K - 1) q)
            · exact q
          have := s4 c c1 ⟨c2, c3⟩ m' a2
          omega
      rcases s5 with b | ⟨c', b1, b2, m', b3, b4⟩
      · omega
      · have cv : Cov (okc n g) (IMc n) (3 ^ n) (m' + 1) (df (Ym n g) cov) := Or.inr ⟨c', b1, b2.1, b2.2, b3.1⟩
        rcases Nat.lt_or_ge (m' + 1) K with q | q
        · exact absurd cv (hK.2 (m' + 1) q)
        · omega
    refine ⟨rr, ?_, s1, K, K16, hK, by rw [s2, vK]⟩
    unfold fX10_form_L158
    simp (disch := omega) only [pw, Option.bind_some, aI_n, aL_n, aQ_n, sA_n, sL_n, csA_n, i_0, i_1, i_2, i_3, i_4, i_5, i_6, i_7, i_8, i_9, i_10, i_11, i_12, i_13, i_16, i_20, i_21, i_22, i_31, i_99, i_100, i_256, i_1000, nI_eq, nI_leI, nI_ltI, nI_add, pk_mul, ↓reduceIte, nt_le, nf_le, nt_lt, nf_lt, nt_eq, nf_eq, meet_N', meet_P', meet_S', meet_Z', meet_B', meet_O', n_1, n_2, n_3, n_4, n_5, n_10, n_11]
theorem form120 {r : RS} {n : Nat} {g : Nat → Nat} (hn : n ≤ 4) (hg : ∀ x, g x ≤ 2) (hB : RBm n g r) : ∃ e, lpN (fun u => fX10_form_L120 u.2 (nI n) (nI (Ym n g)) u.1) bigN (nI (Ym n g), r) = some e ∧ RM r e ∧ RBm n g e ∧ Nd25 n g (e.2.1 25) 0 := by
  have p8 := p81 hn
  have p0 := p3 n
  have Y16 := Ym_16 hn g
  have HH := lp_count (body := fun u => fX10_form_L120 u.2 (nI n) (nI (Ym n g)) u.1) (fun i s => s.1 = lI (Ym n g + 1 - i) ∧ RM r s.2 ∧ RBm n g s.2 ∧ Nd25 n g (s.2.2.1 25) (Ym n g + 1 - i)) (Ym n g + 1) (fun e => RM r e ∧ RBm n g e ∧ Nd25 n g (e.2.1 25) 0) (bigN_gt (by omega)) (fun i s hi hs => ?_) (fun s hs => ?_) (s := (nI (Ym n g), r)) ⟨rfl, RM.rf, hB, fun cov h1 h2 => ?_⟩
  · exact HH
  · obtain ⟨l, rr⟩ := s
    obtain ⟨rfl, s1, s2, s3⟩ := hs
    simp only at s1 s2 s3
    obtain ⟨cov, hcov⟩ : ∃ c, Ym n g + 1 - i = c + 1 := ⟨Ym n g - i, by omega⟩
    have hle : cov ≤ Ym n g := by omega
    rw [hcov] at s3
    have hl' : lI (Ym n g + 1 - (i + 1)) = nI cov + -nI 1 := by
      rw [show Ym n g + 1 - (i + 1) = cov by omega]
      cases cov with
      | zero => rfl
      | succ k => exact (m1_add (a := k + 1) (by omega)).symm
    show ∃ s', fX10_form_L120 rr (nI n) (nI (Ym n g)) (lI (Ym n g + 1 - i)) = _ ∧ _
    rw [hcov, show lI (cov + 1) = nI cov from rfl]
    have dl := df_le cov (Ym n g)
    have dsub := df_sub (Y := Ym n g) (cov := cov) (by omega)
    unfold fX10_form_L120
    by_cases hs : cov &&& Ym n g = cov
    · have d0 := dsub.mpr hs
      have fin : ∀ e : RS, F25 rr e cov → (∃ k, k ≤ 16 ∧ IsMin (okc n g) (IMc n) (3 ^ n) (df (Ym n g) cov) k ∧ e.2.1 25 cov = nI k) → RM r e ∧ RBm n g e ∧ Nd25 n g (e.2.1 25) (Ym n g + 1 - (i + 1)) := fun e h1 h2 => by
        refine ⟨⟨fun k hk => by rw [h1.1]; exact s1.1 k hk, fun k a b c => by rw [h1.2.2.1 k a]; exact s1.2.1 k a b c, by rw [h1.2.1]; exact s1.2.2⟩, h1.rb s2, fun c' hc' hsub => ?_⟩
        by_cases e' : c' = cov
        · rw [e']; exact h2
        · rw [h1.2.2.2 c' e']
          exact s3 c' (by omega) hsub
      by_cases hY : cov = Ym n g
      · have e1 : lpN (fun u => fX10_form_L158 u.2 (nI n) (nI (Ym n g)) (nI cov) u.1) bigN (nI 0, rA rr 25 cov (nI 0)) = some (rA rr 25 cov (nI 0)) := by
          have pw : (rA rr 25 cov (nI 0)).2.1 11 n = nI (3 ^ n) := by rw [rA_n (by omega)]; exact s2.1 n (by omega)
          refine lp_det (body := fun u => fX10_form_L158 u.2 (nI n) (nI (Ym n g)) (nI cov) u.1) (fun i => (nI i, rA rr 25 cov (nI 0))) 0 (bigN_gt (by omega)) (fun i hi => by omega) ?_
          show fX10_form_L158 (rA rr 25 cov (nI 0)) (nI n) (nI (Ym n g)) (nI cov) (nI 0) = _
          unfold fX10_form_L158
          simp (disch := omega) only [pw, Option.bind_some, aI_n, aL_n, aQ_n, sA_n, sL_n, csA_n, i_0, i_1, i_2, i_3, i_4, i_5, i_6, i_7, i_8, i_9, i_10, i_11, i_12, i_13, i_16, i_20, i_21, i_22, i_31, i_99, i_100, i_256, i_1000, nI_eq, nI_leI, nI_ltI, nI_add, pk_mul, ↓reduceIte, nt_le, nf_le, nt_lt, nf_lt, nt_eq, nf_eq, meet_N', meet_P', meet_S', meet_Z', meet_B', meet_O', n_1, n_2, n_3, n_4, n_5, n_10, n_11]
        refine ⟨(lI (Ym n g + 1 - (i + 1)), rA rr 25 cov (nI 0)), ?_, rfl, fin _ F25.rf.up ⟨0, by omega, ?_, rA_s⟩⟩
        · unfold fX10_form_L120_J154 fX10_form_L120_J252
          simp (disch := omega) only [df_n, d0, e1, hl', Option.bind_some, aI_n, aL_n, aQ_n, sA_n, sL_n, csA_n, i_0, i_1, i_2, i_3, i_4, i_5, i_6, i_7, i_8, i_9, i_10, i_11, i_12, i_13, i_16, i_20, i_21, i_22, i_31, i_99, i_100, i_256, i_1000, nI_eq, nI_leI, nI_ltI, nI_add, pk_mul, ↓reduceIte, nt_le, nf_le, nt_lt, nf_lt, nt_eq, nf_eq, meet_N', meet_P', meet_S', meet_Z', meet_B', meet_O', n_1, n_2, n_3, n_4, n_5, n_10, n_11]
        · rw [hY, df_self _ Y16]
          exact ⟨rfl, fun j hj => by omega⟩
      · obtain ⟨e, e1, e2, e3⟩ := form158 (r := rA rr 25 cov (nI 100)) (cov := cov) hn hg (F25.rf.up.rb s2) hs hY (fun c' h1 h2 => by rw [rA_j (by omega)]; exact s3 c' h1 h2) rA_s
        refine ⟨(lI (Ym n g + 1 - (i + 1)), e), ?_, rfl, fin e (F25.rf.up.tr e2) e3⟩
        unfold fX10_form_L120_J154 fX10_form_L120_J252
        simp (disch := omega) only [df_n, d0, e1, hl', Option.bind_some, aI_n, aL_n, aQ_n, sA_n, sL_n, csA_n, i_0, i_1, i_2, i_3, i_4, i_5, i_6, i_7, i_8, i_9, i_10, i_11, i_12, i_13, i_16, i_20, i_21, i_22, i_31, i_99, i_100, i_256, i_1000, nI_eq, nI_leI, nI_ltI, nI_add, pk_mul, ↓reduceIte, nt_le, nf_le, nt_lt, nf_lt, nt_eq, nf_eq, meet_N', meet_P', meet_S', meet_Z', meet_B', meet_O', n_1, n_2, n_3, n_4, n_5, n_10, n_11]
    · have d1 : ¬ df cov (Ym n g) = 0 := fun q => hs (dsub.mp q)
      refine ⟨(lI (Ym n g + 1 - (i + 1)), rr), ?_, rfl, s1, s2, fun c' h1 h2 => ?_⟩
      · unfold fX10_form_L120_J252
        simp (disch := omega) only [df_n, hl', Option.bind_some, aI_n, aL_n, aQ_n, sA_n, sL_n, csA_n, i_0, i_1, i_2, i_3, i_4, i_5, i_6, i_7, i_8, i_9, i_10, i_11, i_12, i_13, i_16, i_20, i_21, i_22, i_31, i_99, i_100, i_256, i_1000, nI_eq, nI_leI, nI_ltI, nI_add, pk_mul, ↓reduceIte, nt_le, nf_le, nt_lt, nf_lt, nt_eq, nf_eq, meet_N', meet_P', meet_S', meet_Z', meet_B', meet_O', n_1, n_2, n_3, n_4, n_5, n_10, n_11]
      · by_cases e' : c' = cov
        · rw [e'] at h2; exact absurd h2 hs
        · exact s3 c' (by omega) h2
  · obtain ⟨l, rr⟩ := s
    obtain ⟨rfl, s1, s2, s3⟩ := hs
    simp only at s1 s2 s3
    rw [Nat.sub_self] at s3
    refine ⟨rr, ?_, s1, s2, s3⟩
    show fX10_form_L120 rr (nI n) (nI (Ym n g)) (lI (Ym n g + 1 - (Ym n g + 1))) = _
    rw [Nat.sub_self, show lI 0 = -nI 1 from rfl]
    unfold fX10_form_L120
    simp (disch := omega) only [m1gt, Option.bind_some, aI_n, aL_n, aQ_n, sA_n, sL_n, csA_n, i_0, i_1, i_2, i_3, i_4, i_5, i_6, i_7, i_8, i_9, i_10, i_11, i_12, i_13, i_16, i_20, i_21, i_22, i_31, i_99, i_100, i_256, i_1000, nI_eq, nI_leI, nI_ltI, nI_add, pk_mul, ↓reduceIte, nt_le, nf_le, nt_lt, nf_lt, nt_eq, nf_eq, meet_N', meet_P', meet_S', meet_Z', meet_B', meet_O', n_1, n_2, n_3, n_4, n_5, n_10, n_11]
  · have : cov ≤ Ym n g := by rw [← h2]; exact Nat.and_le_right
    omega
