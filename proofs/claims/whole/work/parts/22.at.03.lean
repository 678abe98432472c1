/-! ===== at, most, where: the reference ===== -/
def RQ (r r' : RS) : Prop := (∀ k, k ≠ 6 → r'.1 k = r.1 k) ∧ (∀ k, k ≠ 24 → r'.2.1 k = r.2.1 k) ∧ r'.2.2 = r.2.2
theorem RQ.rf {r : RS} : RQ r r := ⟨fun _ _ => rfl, fun _ _ => rfl, rfl⟩
theorem RQ.tr {x y z : RS} (h : RQ x y) (h' : RQ y z) : RQ x z := ⟨fun k hk => (h'.1 k hk).trans (h.1 k hk), fun k hk => (h'.2.1 k hk).trans (h.2.1 k hk), h'.2.2.trans h.2.2⟩
theorem RQ.up {r r' : RS} {i : Nat} {x : Int32} (h : RQ r r') : RQ r (rA r' 24 i x) := ⟨h.1, fun j hj => by rw [rA_n hj]; exact h.2.1 j hj, h.2.2⟩
theorem RQ.i6 {r r' : RS} {x : Int32} (h : RQ r r') : RQ r (rI r' 6 x) := ⟨fun k hk => by rw [rI_n hk]; exact h.1 k hk, h.2.1, h.2.2⟩
theorem RQ_tk {r r' : RS} {p n : Nat} {kd wt : Int32} {g : Nat → Nat} (h : RQ r r') (n8 : n ≤ 8) (t : TkR r p n kd wt g) : TkR r' p n kd wt g := RSame.tk (r := r) ⟨by rw [h.2.1 0 (by omega)], by rw [h.2.1 1 (by omega)], by rw [h.2.1 2 (by omega)], fun x _ => by rw [h.2.1 3 (by omega)]⟩ n8 t
theorem Sim_rq {o : Nat} {z : CS} {r r' : RS} (h : Sim o z r) (q : RQ r r') : Sim o z r' := Sim_r h q.1 (fun k hk => q.2.1 k (by omega)) (by rw [q.2.2])
def RQ' (r : RS) (x : Int32) (r' : RS) : Prop := RQ r r' ∧ r'.1 6 = x
theorem RQ'.up {r r' : RS} {i : Nat} {x y : Int32} (h : RQ' r y r') : RQ' r y (rA r' 24 i x) := ⟨h.1.up, h.2⟩
theorem blocks21 {r0 r : RS} {p n x s : Nat} {kd wt i6 : Int32} {g V : Nat → Nat} (hp : p < 16) (t2 : TkR r0 p n kd wt g) (n8 : n ≤ 8) (hx : x < 2 ^ n) (hg : ∀ x, g x ≤ 2) (hs : s < 2 ^ n) (hq : RQ' r0 i6 r) (hV : ∀ t, t < s → r.2.1 24 t = nI (V t)) (hb : ∀ t, t < s → V t ≤ t) (h0 : r.2.1 24 s = nI 0) : ∃ e, lpN (fun u => fX10_blocks_L21 u.2 (nI p) (nI x) (nI s) u.1) bigN (nI 1, r) = some e ∧ (RQ' r0 i6 e ∧ (∀ t, t < s → e.2.1 24 t = nI (V t)) ∧ ∃ v, e.2.1 24 s = nI v ∧ v ≤ s ∧ IsMx (fun t => t &&& s = t ∧ Bk n g x t) (fun t => V (s - t) + 1) v) := by
  have p2 := p2le n8
  refine lp_count (fun i st => st.1 = nI (i + 1) ∧ RQ' r0 i6 st.2 ∧ (∀ t, t < s → st.2.2.1 24 t = nI (V t)) ∧ ∃ v, st.2.2.1 24 s = nI v ∧ v ≤ s ∧ IsMx (fun t => t < i + 1 ∧ t &&& s = t ∧ Bk n g x t) (fun t => V (s - t) + 1) v) s _ (bigN_gt (by omega)) (fun i st hi hst => ?_) (fun st hst => ?_) ⟨rfl, hq, hV, 0, h0, Nat.zero_le _, fun t ht => ?_, Or.inl rfl⟩
  · obtain ⟨l, rr⟩ := st
    obtain ⟨rfl, s1, s2, v, s3, s4, s5, s6⟩ := hst
    simp only at s1 s2 s3
    have tk := RQ_tk s1.1 n8 t2
    have an := and_not (x := s) (y := i + 1) (by omega) (by omega)
    have hxl : x ^^^ (i + 1) < 2 ^ n := Nat.xor_lt_two_pow hx (by omega)
    have g1 := hg x
    have g2 := hg (x ^^^ (i + 1))
    have keep : ¬ ((i + 1) &&& s = i + 1 ∧ Bk n g x (i + 1)) → IsMx (fun t => t < i + 1 + 1 ∧ t &&& s = t ∧ Bk n g x t) (fun t => V (s - t) + 1) v := by
      intro hno
      refine ⟨fun t ht => ?_, ?_⟩
      · by_cases e : t = i + 1
        · rw [e] at ht; exact absurd ht.2 hno
        · exact s5 t ⟨by omega, ht.2⟩
      · rcases s6 with a | ⟨t, a1, a2⟩
        · exact Or.inl a
        · exact Or.inr ⟨t, ⟨by omega, a1.2⟩, a2⟩
    unfold fX10_blocks_L21 fX10_blocks_L21_J96 fX10_blocks_L21_J97
    by_cases hsub : (i + 1) &&& s = i + 1
    · have c := an.mpr hsub
      by_cases hB : g (x ^^^ (i + 1)) = g x
      · refine ⟨(nI (i + 1 + 1), rr), ?_, rfl, s1, s2, v, s3, s4, keep (fun w => w.2.2 hB)⟩
        simp (disch := omega) only [c, nI_xor, say0_n hp tk n8 hxl, say0_n hp tk n8 hx, hB, Option.bind_some, aI_n, aL_n, aQ_n, sA_n, sL_n, csA_n, i_0, i_1, i_2, i_3, i_4, i_5, i_6, i_7, i_8, i_9, i_10, i_11, i_12, i_13, i_16, i_20, i_21, i_22, i_31, i_99, i_100, i_256, i_1000, nI_eq, nI_leI, nI_ltI, nI_add, pk_mul, ↓reduceIte, nt_le, nf_le, nt_lt, nf_lt, nt_eq, nf_eq, meet_N', meet_P', meet_S', meet_Z', meet_B', meet_O', n_1, n_2, n_3, n_4, n_5, n_10, n_11]
      · have sx := sub_x (s := s) (t := i + 1) (by omega) (by omega) hsub
        have e1 : nI s &&& (nI (i + 1) ^^^ -nI 1) = nI (s - (i + 1)) := by
          rw [show -nI 1 = nI 4294967295 by decide, nI_xor, nI_and, sx.2.2.1]
        have rV := s2 (s - (i + 1)) (by omega)
        have bV := hb (s - (i + 1)) (by omega)
        refine ⟨(nI (i + 1 + 1), rA rr 24 s (nI (max v (V (s - (i + 1)) + 1)))), ?_, rfl, s1.up, fun t ht => ?_, max v (V (s - (i + 1)) + 1), rA_s, by omega, fun t ht => ?_, ?_⟩
        · by_cases q : 1 + V (s - (i + 1)) ≤ v
          · rw [Nat.max_eq_left (by omega)]
            simp (disch := omega) only [c, nI_xor, say0_n hp tk n8 hxl, say0_n hp tk n8 hx, hB, e1, rV, s3, Option.bind_some, aI_n, aL_n, aQ_n, sA_n, sL_n, csA_n, i_0, i_1, i_2, i_3, i_4, i_5, i_6, i_7, i_8, i_9, i_10, i_11, i_12, i_13, i_16, i_20, i_21, i_22, i_31, i_99, i_100, i_256, i_1000, nI_eq, nI_leI, nI_ltI, nI_add, pk_mul, ↓reduceIte, nt_le, nf_le, nt_lt, nf_lt, nt_eq, nf_eq, meet_N', meet_P', meet_S', meet_Z', meet_B', meet_O', n_1, n_2, n_3, n_4, n_5, n_10, n_11]
          · rw [Nat.max_eq_right (by omega), Nat.add_comm (V _) 1]
            simp (disch := omega) only [c, nI_xor, say0_n hp tk n8 hxl, say0_n hp tk n8 hx, hB, e1, rV, s3, Option.bind_some, aI_n, aL_n, aQ_n, sA_n, sL_n, csA_n, i_0, i_1, i_2, i_3, i_4, i_5, i_6, i_7, i_8, i_9, i_10, i_11, i_12, i_13, i_16, i_20, i_21, i_22, i_31, i_99, i_100, i_256, i_1000, nI_eq, nI_leI, nI_ltI, nI_add, pk_mul, ↓reduceIte, nt_le, nf_le, nt_lt, nf_lt, nt_eq, nf_eq, meet_N', meet_P', meet_S', meet_Z', meet_B', meet_O', n_1, n_2, n_3, n_4, n_5, n_10, n_11]
        · show (rA rr 24 s _).2.1 24 t = _
          rw [rA_j (by omega)]; exact s2 t ht
        · by_cases e : t = i + 1
          · rw [e]; exact Nat.le_max_right _ _
          · exact Nat.le_trans (s5 t ⟨by omega, ht.2⟩) (Nat.le_max_left _ _)
        · rcases Nat.le_total v (V (s - (i + 1)) + 1) with q | q
          · exact Or.inr ⟨i + 1, ⟨by omega, hsub, by omega, hB⟩, Nat.max_eq_right q⟩
          · rcases s6 with a | ⟨t, a1, a2⟩
            · omega
            · exact Or.inr ⟨t, ⟨by omega, a1.2⟩, by rw [Nat.max_eq_left q]; exact a2⟩
    · have c : ¬ nI (i + 1) &&& (nI s ^^^ -nI 1) = nI 0 := fun w => hsub (an.mp w)
      refine ⟨(nI (i + 1 + 1), rr), ?_, rfl, s1, s2, v, s3, s4, keep (fun w => hsub w.1)⟩
      simp (disch := omega) only [c, Option.bind_some, aI_n, aL_n, aQ_n, sA_n, sL_n, csA_n, i_0, i_1, i_2, i_3, i_4, i_5, i_6, i_7, i_8, i_9, i_10, i_11, i_12, i_13, i_16, i_20, i_21, i_22, i_31, i_99, i_100, i_256, i_1000, nI_eq, nI_leI, nI_ltI, nI_add, pk_mul, ↓reduceIte, nt_le, nf_le, nt_lt, nf_lt, nt_eq, nf_eq, meet_N', meet_P', meet_S', meet_Z', meet_B', meet_O', n_1, n_2, n_3, n_4, n_5, n_10, n_11]
  · obtain ⟨l, rr⟩ := st
    obtain ⟨rfl, s1, s2, v, s3, s4, s5, s6⟩ := hst
    refine ⟨rr, ?_, s1, s2, v, s3, s4, fun t ht => s5 t ⟨?_, ht⟩, ?_⟩
    · unfold fX10_blocks_L21
      simp (disch := omega) only [Option.bind_some, aI_n, aL_n, aQ_n, sA_n, sL_n, csA_n, i_0, i_1, i_2, i_3, i_4, i_5, i_6, i_7, i_8, i_9, i_10, i_11, i_12, i_13, i_16, i_20, i_21, i_22, i_31, i_99, i_100, i_256, i_1000, nI_eq, nI_leI, nI_ltI, nI_add, pk_mul, ↓reduceIte, nt_le, nf_le, nt_lt, nf_lt, nt_eq, nf_eq, meet_N', meet_P', meet_S', meet_Z', meet_B', meet_O', n_1, n_2, n_3, n_4, n_5, n_10, n_11]
    · have : t ≤ s := by rw [← ht.1]; exact Nat.and_le_right
      omega
    · rcases s6 with a | ⟨t, a1, a2⟩
      · exact Or.inl a
      · exact Or.inr ⟨t, a1.2, a2⟩
  · have t0 : t = 0 := by omega
    exact absurd (t0 ▸ ht.2.2) Bk_0
theorem blocks_n {r0 r : RS} {p n x : Nat} {kd wt i6 : Int32} {g : Nat → Nat} (hp : p < 16) (t2 : TkR r0 p n kd wt g) (n8 : n ≤ 8) (hx : x < 2 ^ n) (hg : ∀ x, g x ≤ 2) (hq : RQ' r0 i6 r) : ∃ V e, fX10_blocks r (nI p) (nI x) = some (nI (V (2 ^ n - 1)), e) ∧ RQ' r0 i6 e ∧ IsAp n (Bk n g x) V := by
  have p2 := p2le n8
  have pp := p2pos (n := n)
  have HH := lp_count (body := fun u => fX10_blocks_L2 u.2 (nI p) (nI x) u.1) (fun m s => s.1 = nI m ∧ RQ' r0 i6 s.2 ∧ ∃ V, ApTo n (Bk n g x) V m ∧ ∀ t, t < m → s.2.2.1 24 t = nI (V t)) (2 ^ n) (fun e => RQ' r0 i6 e ∧ ∃ V, ApTo n (Bk n g x) V (2 ^ n) ∧ ∀ t, t < 2 ^ n → e.2.1 24 t = nI (V t)) (bigN_gt (by omega)) (fun m s hm hs => ?_) (fun s hs => ?_) (s := (nI 0, r)) ⟨rfl, hq, fun _ => 0, fun s hs => by omega, fun t ht => by omega⟩
  · obtain ⟨e, e1, e2, V, e3, e4⟩ := HH
    refine ⟨V, e, ?_, e2, ApTo_n e3⟩
    have tk := RQ_tk e2.1 n8 t2
    unfold fX10_blocks
    refine (congrArg (fun u => u.bind fun e10 => (fX10_inputs e10 (nI p)).bind fun q11 => (aI 256 (e10.2.1 24) (q11 - (1 : Int32))).bind fun v12 => some (v12, e10)) e1).trans ?_
    simp (disch := omega) only [inputs_n hp tk.1 n8, pk_sub, e4 (2 ^ n - 1) (by omega), Option.bind_some, aI_n, aL_n, aQ_n, sA_n, sL_n, csA_n, i_0, i_1, i_2, i_3, i_4, i_5, i_6, i_7, i_8, i_9, i_10, i_11, i_12, i_13, i_16, i_20, i_21, i_22, i_31, i_99, i_100, i_256, i_1000, nI_eq, nI_leI, nI_ltI, nI_add, pk_mul, ↓reduceIte, nt_le, nf_le, nt_lt, nf_lt, nt_eq, nf_eq, meet_N', meet_P', meet_S', meet_Z', meet_B', meet_O', n_1, n_2, n_3, n_4, n_5, n_10, n_11]
  · obtain ⟨l, rr⟩ := s
    obtain ⟨rfl, s1, V, s4, s5⟩ := hs
    simp only at s1 s5
    have tk := RQ_tk s1.1 n8 t2
    obtain ⟨e9, w1, w2, w3, v, w4, w5, w6⟩ := blocks21 (s := m) (V := V) (r := rA rr 24 m (nI 0)) hp t2 n8 hx hg hm s1.up (fun t ht => by rw [rA_j (by omega)]; exact s5 t ht) (fun t ht => (s4 t ht).1) rA_s
    refine ⟨(nI (m + 1), e9), ?_, rfl, w2, fun t => if t = m then v else V t, ApTo_s Bk_0 s4 w5 w6, fun t ht => ?_⟩
    · unfold fX10_blocks_L2
      simp (disch := omega) only [inputs_n hp tk.1 n8, w1, Option.bind_some, aI_n, aL_n, aQ_n, sA_n, sL_n, csA_n, i_0, i_1, i_2, i_3, i_4, i_5, i_6, i_7, i_8, i_9, i_10, i_11, i_12, i_13, i_16, i_20, i_21, i_22, i_31, i_99, i_100, i_256, i_1000, nI_eq, nI_leI, nI_ltI, nI_add, pk_mul, ↓reduceIte, nt_le, nf_le, nt_lt, nf_lt, nt_eq, nf_eq, meet_N', meet_P', meet_S', meet_Z', meet_B', meet_O', n_1, n_2, n_3, n_4, n_5, n_10, n_11]
    · show e9.2.1 24 t = nI (if t = m then v else V t)
      by_cases e : t = m
      · rw [if_pos e, e]; exact w4
      · rw [if_neg e]; exact w3 t (by omega)
  · obtain ⟨l, rr⟩ := s
    obtain ⟨rfl, s1, s4⟩ := hs
    have tk := RQ_tk (show RQ' r0 i6 rr from s1).1 n8 t2
    refine ⟨rr, ?_, s1, s4⟩
    unfold fX10_blocks_L2
    simp (disch := omega) only [inputs_n hp tk.1 n8, Option.bind_some, aI_n, aL_n, aQ_n, sA_n, sL_n, csA_n, i_0, i_1, i_2, i_3, i_4, i_5, i_6, i_7, i_8, i_9, i_10, i_11, i_12, i_13, i_16, i_20, i_21, i_22, i_31, i_99, i_100, i_256, i_1000, nI_eq, nI_leI, nI_ltI, nI_add, pk_mul, ↓reduceIte, nt_le, nf_le, nt_lt, nf_lt, nt_eq, nf_eq, meet_N', meet_P', meet_S', meet_Z', meet_B', meet_O', n_1, n_2, n_3, n_4, n_5, n_10, n_11]
theorem cubeOf_n {r : RS} {n x m : Nat} (hp : PwR r) (n8 : n ≤ 8) (hx : x < 2 ^ n) (hm : m < 2 ^ n) : fX10_cubeOf r (nI x) (nI m) (nI n) = some (nI (cub x m n)) := by
  have p2 := p2le n8
  have key : lpN (fun u => fX10_cubeOf_L6 r (nI x) (nI m) (nI n) u.1 u.2) bigN (nI 0, nI 0) = some (nI (cub x m n)) := by
    refine lp_det (body := fun u => fX10_cubeOf_L6 r (nI x) (nI m) (nI n) u.1 u.2) (fun i => (nI (cub x m i), nI i)) n (bigN_gt (by omega)) (fun i hi => ?_) ?_
    · have bl := bt_lt m i
      unfold fX10_cubeOf_L6 fX10_cubeOf_L6_J34
      by_cases c : bt m i = 1
      · rw [show cub x m (i + 1) = cub x m i + bt x i * 3 ^ i by show _ + (if _ then _ else 2) * _ = _; rw [if_pos c]]
        simp (disch := omega) only [bitB (show m < 2 ^ 31 by omega) (show i < 32 by omega), bitB (show x < 2 ^ 31 by omega) (show i < 32 by omega), c, hp i (by omega), Option.bind_some, aI_n, aL_n, aQ_n, sA_n, sL_n, csA_n, i_0, i_1, i_2, i_3, i_4, i_5, i_6, i_7, i_8, i_9, i_10, i_11, i_12, i_13, i_16, i_20, i_21, i_22, i_31, i_99, i_100, i_256, i_1000, nI_eq, nI_leI, nI_ltI, nI_add, pk_mul, ↓reduceIte, nt_le, nf_le, nt_lt, nf_lt, nt_eq, nf_eq, meet_N', meet_P', meet_S', meet_Z', meet_B', meet_O', n_1, n_2, n_3, n_4, n_5, n_10, n_11]
      · rw [show cub x m (i + 1) = cub x m i + 2 * 3 ^ i by show _ + (if _ then _ else 2) * _ = _; rw [if_neg c]]
        simp (disch := omega) only [bitB (show m < 2 ^ 31 by omega) (show i < 32 by omega), hp i (by omega), Option.bind_some, aI_n, aL_n, aQ_n, sA_n, sL_n, csA_n, i_0, i_1, i_2, i_3, i_4, i_5, i_6, i_7, i_8, i_9, i_10, i_11, i_12, i_13, i_16, i_20, i_21, i_22, i_31, i_99, i_100, i_256, i_1000, nI_eq, nI_leI, nI_ltI, nI_add, pk_mul, ↓reduceIte, nt_le, nf_le, nt_lt, nf_lt, nt_eq, nf_eq, meet_N', meet_P', meet_S', meet_Z', meet_B', meet_O', n_1, n_2, n_3, n_4, n_5, n_10, n_11]
    · unfold fX10_cubeOf_L6
      simp (disch := omega) only [Option.bind_some, aI_n, aL_n, aQ_n, sA_n, sL_n, csA_n, i_0, i_1, i_2, i_3, i_4, i_5, i_6, i_7, i_8, i_9, i_10, i_11, i_12, i_13, i_16, i_20, i_21, i_22, i_31, i_99, i_100, i_256, i_1000, nI_eq, nI_leI, nI_ltI, nI_add, pk_mul, ↓reduceIte, nt_le, nf_le, nt_lt, nf_lt, nt_eq, nf_eq, meet_N', meet_P', meet_S', meet_Z', meet_B', meet_O', n_1, n_2, n_3, n_4, n_5, n_10, n_11]
  unfold fX10_cubeOf
  exact (congrArg (fun u => u.bind fun e5 => some e5) key).trans rfl
theorem proof_n {r : RS} {p n x v0 : Nat} {kd wt : Int32} {g : Nat → Nat} (hpl : p < 16) (hp : PwR r) (t2 : TkR r p n kd wt g) (hcu : CubR r r n g (3 ^ n)) (n8 : n ≤ 8) (hx : x < 2 ^ n) (hg : ∀ x, g x ≤ 2) (ht : ∀ y, y < 2 ^ n → g y ≤ 1) (h0 : v0 ≤ n) (hv : IsMx (fun s => s < 2 ^ n ∧ ¬ TB (Bk n g x) s) pop v0) : fX10_proof r (nI p) (nI x) = some (nI (n - v0)) := by
  have p2 := p2le n8
  have pp := p2pos (n := n)
  have h6 := p3le n8
  have set : ∀ m, m < 2 ^ n → (hasT n g (cub x m n) = 3 ↔ TB (Bk n g x) (2 ^ n - 1 - m)) := fun m hm => cub_set n8 hg ht hx hm
  have HH := lp_count (body := fun u => fX10_proof_L10 r (nI p) (nI x) u.1 u.2) (fun m st => ∃ v, st = (nI v, nI m) ∧ v ≤ n ∧ (∀ m', m' < m → hasT n g (cub x m' n) ≠ 3 → v ≤ pop m') ∧ (v = n ∨ ∃ m', m' < m ∧ hasT n g (cub x m' n) ≠ 3 ∧ pop m' = v)) (2 ^ n) (fun e => e = nI (n - v0)) (bigN_gt (by omega)) (fun m st hm hst => ?_) (fun st hst => ?_) (s := (nI n, nI 0)) ⟨n, rfl, Nat.le_refl _, fun m' hm' => by omega, Or.inl rfl⟩
  · obtain ⟨e, e1, rfl⟩ := HH
    unfold fX10_proof
    simp (disch := omega) only [t2.1, Option.bind_some, aI_n, aL_n, aQ_n, sA_n, sL_n, csA_n, i_0, i_1, i_2, i_3, i_4, i_5, i_6, i_7, i_8, i_9, i_10, i_11, i_12, i_13, i_16, i_20, i_21, i_22, i_31, i_99, i_100, i_256, i_1000, nI_eq, nI_leI, nI_ltI, nI_add, pk_mul, ↓reduceIte, nt_le, nf_le, nt_lt, nf_lt, nt_eq, nf_eq, meet_N', meet_P', meet_S', meet_Z', meet_B', meet_O', n_1, n_2, n_3, n_4, n_5, n_10, n_11]
    exact (congrArg (fun u => u.bind fun e8 => some e8) e1).trans rfl
  · obtain ⟨v, rfl, hvn, h1, h2⟩ := hst
    have pu := pop_ub n8 hm
    have ck := (cub_ok x m n).1
    have hl := hasT_le n g (cub x m n)
    have c12 := (hcu.2.2.2 _ ck).1
    unfold fX10_proof_L10 fX10_proof_L10_J57 fX10_proof_L10_J58 fX10_isSettled
    by_cases q : v ≤ pop m
    · refine ⟨(nI v, nI (m + 1)), ?_, v, rfl, hvn, fun m' hm' hs => ?_, ?_⟩
      · simp (disch := omega) only [inputs_n hpl t2.1 n8, ones_n (show m < 256 by omega), Option.bind_some, aI_n, aL_n, aQ_n, sA_n, sL_n, csA_n, i_0, i_1, i_2, i_3, i_4, i_5, i_6, i_7, i_8, i_9, i_10, i_11, i_12, i_13, i_16, i_20, i_21, i_22, i_31, i_99, i_100, i_256, i_1000, nI_eq, nI_leI, nI_ltI, nI_add, pk_mul, ↓reduceIte, nt_le, nf_le, nt_lt, nf_lt, nt_eq, nf_eq, meet_N', meet_P', meet_S', meet_Z', meet_B', meet_O', n_1, n_2, n_3, n_4, n_5, n_10, n_11]
      · by_cases e : m' = m
        · rw [e]; exact q
        · exact h1 m' (by omega) hs
      · rcases h2 with a | ⟨m', a1, a2⟩
        · exact Or.inl a
        · exact Or.inr ⟨m', by omega, a2⟩
    · by_cases hs : hasT n g (cub x m n) = 3
      · refine ⟨(nI v, nI (m + 1)), ?_, v, rfl, hvn, fun m' hm' hs' => ?_, ?_⟩
        · simp (disch := omega) only [inputs_n hpl t2.1 n8, ones_n (show m < 256 by omega), t2.1, cubeOf_n hp n8 hx hm, c12, hs, Option.bind_some, aI_n, aL_n, aQ_n, sA_n, sL_n, csA_n, i_0, i_1, i_2, i_3, i_4, i_5, i_6, i_7, i_8, i_9, i_10, i_11, i_12, i_13, i_16, i_20, i_21, i_22, i_31, i_99, i_100, i_256, i_1000, nI_eq, nI_leI, nI_ltI, nI_add, pk_mul, ↓reduceIte, nt_le, nf_le, nt_lt, nf_lt, nt_eq, nf_eq, meet_N', meet_P', meet_S', meet_Z', meet_B', meet_O', n_1, n_2, n_3, n_4, n_5, n_10, n_11]
        · by_cases e : m' = m
          · rw [e] at hs'; exact absurd hs hs'
          · exact h1 m' (by omega) hs'
        · rcases h2 with a | ⟨m', a1, a2⟩
          · exact Or.inl a
          · exact Or.inr ⟨m', by omega, a2⟩
      · refine ⟨(nI (pop m), nI (m + 1)), ?_, pop m, rfl, pu, fun m' hm' hs' => ?_, Or.inr ⟨m, by omega, hs, rfl⟩⟩
        · simp (disch := omega) only [inputs_n hpl t2.1 n8, ones_n (show m < 256 by omega), t2.1, cubeOf_n hp n8 hx hm, c12, Option.bind_some, aI_n, aL_n, aQ_n, sA_n, sL_n, csA_n, i_0, i_1, i_2, i_3, i_4, i_5, i_6, i_7, i_8, i_9, i_10, i_11, i_12, i_13, i_16, i_20, i_21, i_22, i_31, i_99, i_100, i_256, i_1000, nI_eq, nI_leI, nI_ltI, nI_add, pk_mul, ↓reduceIte, nt_le, nf_le, nt_lt, nf_lt, nt_eq, nf_eq, meet_N', meet_P', meet_S', meet_Z', meet_B', meet_O', n_1, n_2, n_3, n_4, n_5, n_10, n_11]
        · by_cases e : m' = m
          · rw [e]; exact Nat.le_refl _
          · have := h1 m' (by omega) hs'
            omega
  · obtain ⟨v, rfl, hvn, h1, h2⟩ := hst
    refine ⟨nI v, ?_, ?_⟩
    · unfold fX10_proof_L10
      simp (disch := omega) only [inputs_n hpl t2.1 n8, Option.bind_some, aI_n, aL_n, aQ_n, sA_n, sL_n, csA_n, i_0, i_1, i_2, i_3, i_4, i_5, i_6, i_7, i_8, i_9, i_10, i_11, i_12, i_13, i_16, i_20, i_21, i_22, i_31, i_99, i_100, i_256, i_1000, nI_eq, nI_leI, nI_ltI, nI_add, pk_mul, ↓reduceIte, nt_le, nf_le, nt_lt, nf_lt, nt_eq, nf_eq, meet_N', meet_P', meet_S', meet_Z', meet_B', meet_O', n_1, n_2, n_3, n_4, n_5, n_10, n_11]
    · congr 1
      have up : v ≤ n - v0 := by
        rcases hv.2 with a | ⟨s, ⟨a1, a2⟩, a3⟩
        · omega
        · have cp := cpl_pop n (by omega) s a1
          have := h1 (2 ^ n - 1 - s) (by omega) (fun w => a2 (by
            have := (set (2 ^ n - 1 - s) (by omega)).mp w
            rw [show 2 ^ n - 1 - (2 ^ n - 1 - s) = s by omega] at this
            exact this))
          omega
      have dn : n - v0 ≤ v := by
        rcases h2 with a | ⟨m', a1, a2, a3⟩
        · omega
        · have cp := cpl_pop n (by omega) m' a1
          have := hv.1 (2 ^ n - 1 - m') ⟨by omega, fun w => a2 ((set m' a1).mpr w)⟩
          omega
      omega
theorem Ap_u {S : Nat → Prop} {n : Nat} {V W : Nat → Nat} (h0 : ¬ S 0) (h : IsAp n S V) (h' : IsAp n S W) : ∀ s, s < 2 ^ n → V s = W s := by
  intro s
  induction s using Nat.strongRecOn with
  | _ s ih =>
    intro hs
    have e : ∀ t, t &&& s = t ∧ S t → V (s - t) = W (s - t) := by
      intro t ht
      have : t ≤ s := by rw [← ht.1]; exact Nat.and_le_right
      have t0 : t ≠ 0 := fun w => h0 (w ▸ ht.2)
      exact ih (s - t) (by omega) (by omega)
    refine IsMx_u (h s hs) ⟨fun t ht => ?_, ?_⟩
    · have := (h' s hs).1 t ht
      simp only at this ⊢
      rw [e t ht]; exact this
    · rcases (h' s hs).2 with a | ⟨t, a1, a2⟩
      · exact Or.inl a
      · exact Or.inr ⟨t, a1, by simp only at a2 ⊢; rw [e t a1]; exact a2⟩
/-- both sides measure alike -/
theorem meas_n {o : Nat} {z : CS} {r : RS} {q p n b x w : Nat} {kd wt : Int32} {g : Nat → Nat} (hp : p < 16) (hw : w ≤ 2) (hpw : PwR r) (hcu : CubR r r n g (3 ^ n)) (t1 : TkAt z q n kd wt g) (t2 : TkR r p n kd wt g) (d1 : dT z q = some (kd, nI n, wt, some b)) (n8 : n ≤ 8) (hg : ∀ x, g x ≤ 2) (ht : ∀ y, y < 2 ^ n → g y ≤ 1) (hx : x < 2 ^ n) : ∃ v, v ≤ n ∧ (∀ y, ZQ z y → ∃ y', fX0_measure o y q (nI w) (nI x) = some (nI v, y') ∧ ZQ z y') ∧ ∀ rr, RQ r rr → ∃ r', fX10_settles rr (nI p) (nI w) (nI x) = some (nI v, r') ∧ RQ r r' ∧ r'.1 6 = rr.1 6 := by
  have p2 := p2le n8
  have pp := p2pos (n := n)
  obtain ⟨f, u2, u3⟩ := TkB t1 d1
  have ftop : 2 ^ n - 1 < 2 ^ n := by omega
  rcases (show w = 0 ∨ w = 1 ∨ w = 2 by omega) with rfl | rfl | rfl
  · refine ⟨sns g x n, sns_le g x n, fun y hy => ⟨y, ?_, hy⟩, fun rr hr => ⟨rr, ?_, hr, rfl⟩⟩
    · unfold fX0_measure
      simp (disch := omega) only [sens9 n8 hx (ZQ_T hy d1) (ZQ_B hy u2) u3 hg, Option.bind_some, aI_n, aL_n, aQ_n, sA_n, sL_n, csA_n, i_0, i_1, i_2, i_3, i_4, i_5, i_6, i_7, i_8, i_9, i_10, i_11, i_12, i_13, i_16, i_20, i_21, i_22, i_31, i_99, i_100, i_256, i_1000, nI_eq, nI_leI, nI_ltI, nI_add, pk_mul, ↓reduceIte, nt_le, nf_le, nt_lt, nf_lt, nt_eq, nf_eq, meet_N', meet_P', meet_S', meet_Z', meet_B', meet_O', n_1, n_2, n_3, n_4, n_5, n_10, n_11]
    · unfold fX10_settles
      simp (disch := omega) only [sens10 hp (RQ_tk hr n8 t2) n8 hx hg, Option.bind_some, aI_n, aL_n, aQ_n, sA_n, sL_n, csA_n, i_0, i_1, i_2, i_3, i_4, i_5, i_6, i_7, i_8, i_9, i_10, i_11, i_12, i_13, i_16, i_20, i_21, i_22, i_31, i_99, i_100, i_256, i_1000, nI_eq, nI_leI, nI_ltI, nI_add, pk_mul, ↓reduceIte, nt_le, nf_le, nt_lt, nf_lt, nt_eq, nf_eq, meet_N', meet_P', meet_S', meet_Z', meet_B', meet_O', n_1, n_2, n_3, n_4, n_5, n_10, n_11]
  · obtain ⟨V, e, e1, e2, e3⟩ := blocks_n (i6 := r.1 6) hp t2 n8 hx hg ⟨RQ.rf, rfl⟩
    refine ⟨V (2 ^ n - 1), Nat.le_trans (Ap_pop n8 e3 Bk_0 _ ftop) (pop_ub n8 ftop), fun y hy => ?_, fun rr hr => ?_⟩
    · obtain ⟨e4, a1, a2, a3, M, bl, a4, a5⟩ := loadB_n (o := o) n8 hx (ZQ_T hy d1) (ZQ_B hy u2) u3 hg
      obtain ⟨W, e5, b1, b2, b3⟩ := apart_n (o := o) n8 (ZQ_T (hy.tr a2) d1) (ZQ_B (hy.tr a2) u2) u3 a4 a5
      refine ⟨e5, ?_, (hy.tr a2).tr b2⟩
      rw [Ap_min n8 Bk_0 e3 b3 _ ftop] at b1
      unfold fX0_measure
      simp (disch := omega) only [a1, b1, Option.bind_some, aI_n, aL_n, aQ_n, sA_n, sL_n, csA_n, i_0, i_1, i_2, i_3, i_4, i_5, i_6, i_7, i_8, i_9, i_10, i_11, i_12, i_13, i_16, i_20, i_21, i_22, i_31, i_99, i_100, i_256, i_1000, nI_eq, nI_leI, nI_ltI, nI_add, pk_mul, ↓reduceIte, nt_le, nf_le, nt_lt, nf_lt, nt_eq, nf_eq, meet_N', meet_P', meet_S', meet_Z', meet_B', meet_O', n_1, n_2, n_3, n_4, n_5, n_10, n_11]
    · obtain ⟨V', e', f1, f2, f3⟩ := blocks_n (i6 := rr.1 6) hp t2 n8 hx hg ⟨hr, rfl⟩
      refine ⟨e', ?_, f2.1, f2.2⟩
      rw [Ap_u Bk_0 f3 e3 _ ftop] at f1
      unfold fX10_settles
      simp (disch := omega) only [f1, Option.bind_some, aI_n, aL_n, aQ_n, sA_n, sL_n, csA_n, i_0, i_1, i_2, i_3, i_4, i_5, i_6, i_7, i_8, i_9, i_10, i_11, i_12, i_13, i_16, i_20, i_21, i_22, i_31, i_99, i_100, i_256, i_1000, nI_eq, nI_leI, nI_ltI, nI_add, pk_mul, ↓reduceIte, nt_le, nf_le, nt_lt, nf_lt, nt_eq, nf_eq, meet_N', meet_P', meet_S', meet_Z', meet_B', meet_O', n_1, n_2, n_3, n_4, n_5, n_10, n_11]
  · obtain ⟨e4, a1, a2, a3, -⟩ := loadB_n (o := o) n8 hx d1 u2 u3 hg
    obtain ⟨v, b1, b2, b3⟩ := proofB_n (o := o) n8 (ZQ_T a2 d1) (ZQ_B a2 u2) u3 a3
    refine ⟨n - v, by omega, fun y hy => ?_, fun rr hr => ⟨rr, ?_, hr, rfl⟩⟩
    · obtain ⟨e5, c1, c2, c3, -⟩ := loadB_n (o := o) n8 hx (ZQ_T hy d1) (ZQ_B hy u2) u3 hg
      obtain ⟨v', f1, f2, f3⟩ := proofB_n (o := o) n8 (ZQ_T (hy.tr c2) d1) (ZQ_B (hy.tr c2) u2) u3 c3
      rw [IsMx_u f3 b3] at f1
      refine ⟨e5, ?_, hy.tr c2⟩
      unfold fX0_measure
      simp (disch := omega) only [c1, f1, Option.bind_some, aI_n, aL_n, aQ_n, sA_n, sL_n, csA_n, i_0, i_1, i_2, i_3, i_4, i_5, i_6, i_7, i_8, i_9, i_10, i_11, i_12, i_13, i_16, i_20, i_21, i_22, i_31, i_99, i_100, i_256, i_1000, nI_eq, nI_leI, nI_ltI, nI_add, pk_mul, ↓reduceIte, nt_le, nf_le, nt_lt, nf_lt, nt_eq, nf_eq, meet_N', meet_P', meet_S', meet_Z', meet_B', meet_O', n_1, n_2, n_3, n_4, n_5, n_10, n_11]
    · have hpw' : PwR rr := fun k hk => by rw [hr.2.1 11 (by omega)]; exact hpw k hk
      have hcu' : CubR rr rr n g (3 ^ n) := ⟨rfl, rfl, fun _ _ => rfl, fun d hd => by rw [hr.2.1 12 (by omega), hr.2.1 13 (by omega), hr.2.1 14 (by omega), hr.2.1 15 (by omega)]; exact hcu.2.2.2 d hd⟩
      have pr := proof_n hp hpw' (RQ_tk hr n8 t2) hcu' n8 hx hg ht b2 b3
      unfold fX10_settles
      simp (disch := omega) only [pr, Option.bind_some, aI_n, aL_n, aQ_n, sA_n, sL_n, csA_n, i_0, i_1, i_2, i_3, i_4, i_5, i_6, i_7, i_8, i_9, i_10, i_11, i_12, i_13, i_16, i_20, i_21, i_22, i_31, i_99, i_100, i_256, i_1000, nI_eq, nI_leI, nI_ltI, nI_add, pk_mul, ↓reduceIte, nt_le, nf_le, nt_lt, nf_lt, nt_eq, nf_eq, meet_N', meet_P', meet_S', meet_Z', meet_B', meet_O', n_1, n_2, n_3, n_4, n_5, n_10, n_11]
