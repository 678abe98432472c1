theorem ones_c : ∀ m, m < 256 → m ≠ 0 → ((m &&& (m + 1) = 0) ↔ m = 2 ^ pop m - 1) := by decide +kernel
theorem Sim_rf {o : Nat} {z : CS} {r r' : RS} (h : Sim o z r) (q : RF r r') : Sim o z r' := Sim_r h (fun k _ => by rw [q.1]) (fun k hk => q.2.2 k (by omega)) (by rw [q.2.1])
/-- a formula that is read -/
theorem read_new {o : Nat} {z : CS} {r rx : RS} {p w : Nat} {u : Nat × Nat} {V : Nat → Int32} (h : Sim o z r) (hp : p < 8) (hw : w ≤ 100) (h1' : z.1 1 = nI w) (hz : ∀ k, k < w → z.2.1 0 k = V k) (hV : ∀ k, k < w → r.2.1 7 k = V k) (hst : stF (fun i => kdv (V i)) w = some u) (hu : u.2 = 1) (hrx : RF (rI r 1 (nI 0)) rx) : ∃ z' r', fX9_read_J16 o z (nI p) (nI (pop u.1)) = some (nI (pop u.1), z') ∧ ((lpN (fun v => fX10_read_L136 v.2 (nI p) (nI w) (nI (pop u.1)) v.1) bigN (nI 0, rx)).bind fun e10 => (fX10_lay e10 (nI p) (nI (pop u.1)) (nI 4) (nI 0)).bind fun q11 => some (nI (pop u.1), q11)) = some (nI (pop u.1), r') ∧ Sim o z' r' := by
  obtain ⟨h1, h2, h3, -⟩ := id h
  obtain ⟨ub1, ub2, ub3⟩ := stF_b w u hst
  have n8 := pop_le u.1
  have n1 : 1 ≤ pop u.1 := by omega
  generalize pop u.1 = n at *
  have p2 := p2le n8
  have acc : ∀ x, ∃ v, x < 2 ^ n → v ≤ 1 ∧ (∀ y, PX o z y → fX9_saidByFormula o y (nI x) = some (nI v)) ∧ ∀ rr : RS, (∀ k, k < w → rr.2.1 7 k = V k) → ∃ r', fX10_formula rr (nI w) (nI x) = some (nI v, r') ∧ RF rr r' := by
    intro x
    by_cases hx : x < 2 ^ n
    · obtain ⟨v, v1, v2, r1, v3, -⟩ := said_n (o := o) hw (show x < 256 by omega) h1' hz hV hst hu
      refine ⟨v, fun _ => ⟨v1, fun y py => ?_, fun rr hr => ?_⟩⟩
      · obtain ⟨v', b1, b2, r2, b3, -⟩ := said_n (o := o) (z := y) hw (show x < 256 by omega) (by rw [py.1]; exact h1') (fun k hk => by rw [py.2.1]; exact hz k hk) hV hst hu
        have := b3.symm.trans v3
        simp only [Option.some.injEq, Prod.mk.injEq] at this
        rw [b2, this.1]
      · obtain ⟨v', b1, b2, r2, b3, b4⟩ := said_n (o := o) (z := z) (r := rr) hw (show x < 256 by omega) h1' hz hr hst hu
        have := b2.symm.trans v2
        simp only [Option.some.injEq] at this
        exact ⟨r2, by rw [b3, this], b4⟩
    · exact ⟨0, fun w => absurd w hx⟩
  obtain ⟨G, hG⟩ := Classical.axiomOfChoice acc
  have hGl : ∀ x, x < 2 ^ n → G x ≤ 2 := fun x hx => by have := (hG x hx).1; omega
  have px : ∀ i, PX o z (zB z (2 ^ n) G i) := fun i => zB_PX h1
  have lc : lpN (fun u => fX9_read_L32 o u.2 (nI p) (nI n) (cn z) u.1) bigN (nI 0, zB z (2 ^ n) G 0) = some (zB z (2 ^ n) G (2 ^ n)) := by
    refine fillB (by omega) (fun i hi => ?_) ?_
    · obtain ⟨c1, c2, c3⟩ := hG i hi
      have hb := b8 _ (hGl i hi)
      have hs := stB_n (z := z) (m := 2 ^ n) (i := i) (G := G) (v := nI (G i)) h1 hi p2 hb
      unfold fX9_read_L32
      simp (disch := omega) only [lnB_z, c2 _ (px i), hb, hs, Option.bind_some, aI_n, aL_n, aQ_n, sA_n, sL_n, csA_n, i_0, i_1, i_2, i_3, i_4, i_5, i_6, i_7, i_8, i_9, i_10, i_11, i_12, i_13, i_16, i_20, i_21, i_22, i_31, i_99, i_100, i_256, i_1000, nI_eq, nI_leI, nI_ltI, nI_add, pk_mul, ↓reduceIte, nt_le, nf_le, nt_lt, nf_lt, nt_eq, nf_eq, meet_N', meet_P', meet_S', meet_Z', meet_B', meet_O', n_1, n_2, n_3, n_4, n_5, n_10, n_11]
    · unfold fX9_read_L32
      simp (disch := omega) only [lnB_z, Option.bind_some, aI_n, aL_n, aQ_n, sA_n, sL_n, csA_n, i_0, i_1, i_2, i_3, i_4, i_5, i_6, i_7, i_8, i_9, i_10, i_11, i_12, i_13, i_16, i_20, i_21, i_22, i_31, i_99, i_100, i_256, i_1000, nI_eq, nI_leI, nI_ltI, nI_add, pk_mul, ↓reduceIte, nt_le, nf_le, nt_lt, nf_lt, nt_eq, nf_eq, meet_N', meet_P', meet_S', meet_Z', meet_B', meet_O', n_1, n_2, n_3, n_4, n_5, n_10, n_11]
  have ht := TkAt_z h1 (n := n) (G := G) (kd := nI 4) (wt := nI (100 + n)) n1 n8 hGl
  have HH := lp_count (body := fun v => fX10_read_L136 v.2 (nI p) (nI w) (nI n) v.1) (fun i s => s.1 = nI i ∧ s.2.1 = (rI r 1 (nI 0)).1 ∧ s.2.2.2 = r.2.2 ∧ (∀ k, k ≠ 9 → k ≠ 10 → s.2.2.1 k = r.2.1 k) ∧ ∀ x, x < i → s.2.2.1 9 x = nI (G x)) (2 ^ n) (fun e => e.1 = (rI r 1 (nI 0)).1 ∧ e.2.2 = r.2.2 ∧ (∀ k, k ≠ 9 → k ≠ 10 → e.2.1 k = r.2.1 k) ∧ ∀ x, x < 2 ^ n → e.2.1 9 x = nI (G x)) (bigN_gt (by omega)) (fun i s hi hs => ?_) (fun s hs => ?_) (s := (nI 0, rx)) ⟨rfl, hrx.1, hrx.2.1, fun k _ k10 => hrx.2.2 k k10, fun x hx => by omega⟩
  · obtain ⟨e, g1, g2, g3, g4, g5⟩ := HH
    obtain ⟨r', k1, k2, k3, k4, k5, k6, k7, k8, k9⟩ := lay_n (r := e) (p := p) (n := n) (kd := nI 4) (wt := nI 0) (G := G) (by omega) n8 g5
    have tk : TkR r' p n (nI 4) (nI (100 + n)) G := ⟨k6, k7, Or.inr (Or.inr (Or.inl ⟨rfl, by rw [Nat.add_comm]⟩)), k9⟩
    have hs0 := Sim_w0 h
    have fin : Sim o (cI (cQ (cNw (zB z (2 ^ n) G (2 ^ n)) (.inl (nI 4, nI n, nI (100 + n), some (cn z)))) 1 p (some (cn (zB z (2 ^ n) G (2 ^ n))))) 1 (nI 0)) r' := by
      refine Sim_newtask (z := cI z 1 (nI 0)) (y := zB (cI z 1 (nI 0)) (2 ^ n) G (2 ^ n)) (t := (nI 4, nI n, nI (100 + n), some (cn z))) hs0 (zB_PX hs0.1) hp ht (k2.trans g2) (k3.trans g3) (fun j h4 h9 h10 => by rw [k4 j h4, g4 j h9 h10]; rfl) (fun j hj hjp => ?_) (TkR_row tk)
      have w := k5 j hj hjp
      unfold RSame at w ⊢
      rw [g4 0 (by omega) (by omega), g4 1 (by omega) (by omega), g4 2 (by omega) (by omega), g4 3 (by omega) (by omega)] at w
      exact w
    refine ⟨_, r', ?_, ?_, fin⟩
    · have pB := (px (2 ^ n)).2.2.2.2.2
      have nm2 : ¬ nI n = -nI 2 := fun q => by
        have := congrArg Int32.toInt q
        rw [nI_toInt (by omega)] at this
        have e : (-nI 2).toInt = -2 := by decide
        omega
      unfold fX9_read_J16 fX9_read_J76
      simp (disch := omega) only [nm2, shl1' n (by omega), alB_n h1 p2 G, lc, Option.bind_some, aI_n, aL_n, aQ_n, sA_n, sL_n, csA_n, i_0, i_1, i_2, i_3, i_4, i_5, i_6, i_7, i_8, i_9, i_10, i_11, i_12, i_13, i_16, i_20, i_21, i_22, i_31, i_99, i_100, i_256, i_1000, nI_eq, nI_leI, nI_ltI, nI_add, pk_mul, ↓reduceIte, nt_le, nf_le, nt_lt, nf_lt, nt_eq, nf_eq, meet_N', meet_P', meet_S', meet_Z', meet_B', meet_O', n_1, n_2, n_3, n_4, n_5, n_10, n_11]
      rw [alT_n pB, Option.bind_some, init8_n pB, Option.bind_some, stQT_n hp (okT_n ht)]
      rfl
    · rw [g1, Option.bind_some, k1]
      rfl
  · obtain ⟨l, rr⟩ := s
    obtain ⟨rfl, s1, s2, s3, s4⟩ := hs
    simp only at s1 s2 s3 s4
    obtain ⟨c1, c2, c3⟩ := hG i hi
    obtain ⟨r2, d1, d2⟩ := c3 rr (fun k hk => by rw [s3 7 (by omega) (by omega)]; exact hV k hk)
    refine ⟨(nI (i + 1), rA r2 9 i (nI (G i))), ?_, rfl, d2.1.trans s1, d2.2.1.trans s2, fun k k9 k10 => ?_, fun x hx => ?_⟩
    · unfold fX10_read_L136
      simp (disch := omega) only [shl1' n (by omega), d1, Option.bind_some, aI_n, aL_n, aQ_n, sA_n, sL_n, csA_n, i_0, i_1, i_2, i_3, i_4, i_5, i_6, i_7, i_8, i_9, i_10, i_11, i_12, i_13, i_16, i_20, i_21, i_22, i_31, i_99, i_100, i_256, i_1000, nI_eq, nI_leI, nI_ltI, nI_add, pk_mul, ↓reduceIte, nt_le, nf_le, nt_lt, nf_lt, nt_eq, nf_eq, meet_N', meet_P', meet_S', meet_Z', meet_B', meet_O', n_1, n_2, n_3, n_4, n_5, n_10, n_11]
    · show (rA r2 9 i _).2.1 k = _
      rw [rA_n k9, d2.2.2 k k10]; exact s3 k k9 k10
    · show (rA r2 9 i _).2.1 9 x = _
      by_cases e : x = i
      · rw [e]; exact rA_s
      · rw [rA_j e, d2.2.2 9 (by omega)]; exact s4 x (by omega)
  · obtain ⟨l, rr⟩ := s
    obtain ⟨rfl, s1, s2, s3, s4⟩ := hs
    refine ⟨rr, ?_, s1, s2, s3, s4⟩
    unfold fX10_read_L136
    simp (disch := omega) only [shl1' n (by omega), Option.bind_some, aI_n, aL_n, aQ_n, sA_n, sL_n, csA_n, i_0, i_1, i_2, i_3, i_4, i_5, i_6, i_7, i_8, i_9, i_10, i_11, i_12, i_13, i_16, i_20, i_21, i_22, i_31, i_99, i_100, i_256, i_1000, nI_eq, nI_leI, nI_ltI, nI_add, pk_mul, ↓reduceIte, nt_le, nf_le, nt_lt, nf_lt, nt_eq, nf_eq, meet_N', meet_P', meet_S', meet_Z', meet_B', meet_O', n_1, n_2, n_3, n_4, n_5, n_10, n_11]
theorem St_read_ok : St_read Sim := by
  intro o z r a1 h
  obtain ⟨h1, h2, h3, h4, ⟨w, hw, w1, w2, w3⟩, -⟩ := id h
  have hs0 := Sim_w0 h
  have hV0 : ∀ k, k < w → (rI r 1 (nI 0)).2.1 7 k = z.2.1 0 k := fun k hk => (w3 k hk).symm
  have r21 := read21 (r := rI r 1 (nI 0)) (V := z.2.1 0) (l1 := a1) hw hV0
  have J2 : fX9_read_J16 o z a1 (-nI 2) = some (-nI 2, cI z 1 (nI 0)) := by
    unfold fX9_read_J16
    exact if_pos rfl
  rcases ix a1 (n := 8) (by omega) with hx | ⟨p, hp, rfl⟩
  · refine ⟨(-nI 2, cI z 1 (nI 0)), (-nI 2, rI r 1 (nI 0)), ?_, ?_, rfl, hs0⟩
    · unfold fX9_read
      simp (disch := omega) only [isPl9_out hx, Option.bind_some, aI_n, aL_n, aQ_n, sA_n, sL_n, csA_n, i_0, i_1, i_2, i_3, i_4, i_5, i_6, i_7, i_8, i_9, i_10, i_11, i_12, i_13, i_16, i_20, i_21, i_22, i_31, i_99, i_100, i_256, i_1000, nI_eq, nI_leI, nI_ltI, nI_add, pk_mul, ↓reduceIte, nt_le, nf_le, nt_lt, nf_lt, nt_eq, nf_eq, meet_N', meet_P', meet_S', meet_Z', meet_B', meet_O', n_1, n_2, n_3, n_4, n_5, n_10, n_11]
      exact J2
    · unfold fX10_read fX10_read_J130
      simp (disch := omega) only [w2, r21, isPl10_out hx, Option.bind_some, aI_n, aL_n, aQ_n, sA_n, sL_n, csA_n, i_0, i_1, i_2, i_3, i_4, i_5, i_6, i_7, i_8, i_9, i_10, i_11, i_12, i_13, i_16, i_20, i_21, i_22, i_31, i_99, i_100, i_256, i_1000, nI_eq, nI_leI, nI_ltI, nI_add, pk_mul, ↓reduceIte, nt_le, nf_le, nt_lt, nf_lt, nt_eq, nf_eq, meet_N', meet_P', meet_S', meet_Z', meet_B', meet_O', n_1, n_2, n_3, n_4, n_5, n_10, n_11]
  obtain ⟨e, b1, b2⟩ := bitsF (o := o) hw w1 (fun k hk => rfl)
  have rel := rel_F (K := fun i => kdv (z.2.1 0 i)) w
  have mb := mrF_b (K := fun i => kdv (z.2.1 0 i)) w
  obtain ⟨c0, rx, fx1, fx2, fx3⟩ := formX (x := 0) hw (by omega) hV0
  -- where the reference refuses
  have refuse : ∀ q : Prop, (fX9_bitsOfFormula o z = some (-nI 2)) → ((mrF (fun i => kdv (z.2.1 0 i)) w).2.2 = 0 ∨ (mrF (fun i => kdv (z.2.1 0 i)) w).2.1 = 0 ∨ ¬ nI (mrF (fun i => kdv (z.2.1 0 i)) w).1 = (nI 1 <<< (nI (mrF (fun i => kdv (z.2.1 0 i)) w).2.1 &&& nI 31)) - nI 1 ∨ c0 = -nI 1) → ∃ (q1 : Int32 × CS) (q2 : Int32 × RS), fX9_read o z (nI p) = some q1 ∧ fX10_read r (nI p) = some q2 ∧ q1.1 = q2.1 ∧ Sim o q1.2 q2.2 := by
    intro _ hb hbad
    have c9 : fX9_read o z (nI p) = some (-nI 2, cI z 1 (nI 0)) := by
      unfold fX9_read
      simp (disch := omega) only [isPl9_in hp, hb, Option.bind_some, aI_n, aL_n, aQ_n, sA_n, sL_n, csA_n, i_0, i_1, i_2, i_3, i_4, i_5, i_6, i_7, i_8, i_9, i_10, i_11, i_12, i_13, i_16, i_20, i_21, i_22, i_31, i_99, i_100, i_256, i_1000, nI_eq, nI_leI, nI_ltI, nI_add, pk_mul, ↓reduceIte, nt_le, nf_le, nt_lt, nf_lt, nt_eq, nf_eq, meet_N', meet_P', meet_S', meet_Z', meet_B', meet_O', n_1, n_2, n_3, n_4, n_5, n_10, n_11]
      exact J2
    have l1 := mb.2.1
    have l2 := mb.2.2
    by_cases q1 : (mrF (fun i => kdv (z.2.1 0 i)) w).2.2 = 0
    · refine ⟨_, (-nI 2, rI r 1 (nI 0)), c9, ?_, rfl, hs0⟩
      unfold fX10_read fX10_read_J130
      simp (disch := omega) only [w2, r21, isPl10_in hp, q1, Option.bind_some, aI_n, aL_n, aQ_n, sA_n, sL_n, csA_n, i_0, i_1, i_2, i_3, i_4, i_5, i_6, i_7, i_8, i_9, i_10, i_11, i_12, i_13, i_16, i_20, i_21, i_22, i_31, i_99, i_100, i_256, i_1000, nI_eq, nI_leI, nI_ltI, nI_add, pk_mul, ↓reduceIte, nt_le, nf_le, nt_lt, nf_lt, nt_eq, nf_eq, meet_N', meet_P', meet_S', meet_Z', meet_B', meet_O', n_1, n_2, n_3, n_4, n_5, n_10, n_11]
    · by_cases q2 : (mrF (fun i => kdv (z.2.1 0 i)) w).2.1 = 0
      · refine ⟨_, (-nI 2, rI r 1 (nI 0)), c9, ?_, rfl, hs0⟩
        unfold fX10_read fX10_read_J130
        simp (disch := omega) only [w2, r21, isPl10_in hp, q2, Option.bind_some, aI_n, aL_n, aQ_n, sA_n, sL_n, csA_n, i_0, i_1, i_2, i_3, i_4, i_5, i_6, i_7, i_8, i_9, i_10, i_11, i_12, i_13, i_16, i_20, i_21, i_22, i_31, i_99, i_100, i_256, i_1000, nI_eq, nI_leI, nI_ltI, nI_add, pk_mul, ↓reduceIte, nt_le, nf_le, nt_lt, nf_lt, nt_eq, nf_eq, meet_N', meet_P', meet_S', meet_Z', meet_B', meet_O', n_1, n_2, n_3, n_4, n_5, n_10, n_11]
      · by_cases q3 : nI (mrF (fun i => kdv (z.2.1 0 i)) w).1 = (nI 1 <<< (nI (mrF (fun i => kdv (z.2.1 0 i)) w).2.1 &&& nI 31)) - nI 1
        · have q4 : c0 = -nI 1 := by
            rcases hbad with a | a | a | a
            · exact absurd a q1
            · exact absurd a q2
            · exact absurd q3 a
            · exact a
          rw [q4] at fx1
          refine ⟨_, (-nI 2, rx), c9, ?_, rfl, Sim_rf hs0 fx2⟩
          unfold fX10_read fX10_read_J130
          simp (disch := omega) only [w2, r21, isPl10_in hp, q3, fx1, m1ge, Option.bind_some, aI_n, aL_n, aQ_n, sA_n, sL_n, csA_n, i_0, i_1, i_2, i_3, i_4, i_5, i_6, i_7, i_8, i_9, i_10, i_11, i_12, i_13, i_16, i_20, i_21, i_22, i_31, i_99, i_100, i_256, i_1000, nI_eq, nI_leI, nI_ltI, nI_add, pk_mul, ↓reduceIte, nt_le, nf_le, nt_lt, nf_lt, nt_eq, nf_eq, meet_N', meet_P', meet_S', meet_Z', meet_B', meet_O', n_1, n_2, n_3, n_4, n_5, n_10, n_11]
        · refine ⟨_, (-nI 2, rI r 1 (nI 0)), c9, ?_, rfl, hs0⟩
          unfold fX10_read fX10_read_J130
          simp (disch := omega) only [w2, r21, isPl10_in hp, q3, Option.bind_some, aI_n, aL_n, aQ_n, sA_n, sL_n, csA_n, i_0, i_1, i_2, i_3, i_4, i_5, i_6, i_7, i_8, i_9, i_10, i_11, i_12, i_13, i_16, i_20, i_21, i_22, i_31, i_99, i_100, i_256, i_1000, nI_eq, nI_leI, nI_ltI, nI_add, pk_mul, ↓reduceIte, nt_le, nf_le, nt_lt, nf_lt, nt_eq, nf_eq, meet_N', meet_P', meet_S', meet_Z', meet_B', meet_O', n_1, n_2, n_3, n_4, n_5, n_10, n_11]
  rcases b2 with ⟨u, hu, rfl⟩ | ⟨hn, rfl⟩
  · obtain ⟨rm, rp⟩ := rel.1 u hu
    obtain ⟨ub1, ub2, ub3⟩ := stF_b w u hu
    have pl := pop_le u.1
    by_cases d1 : u.2 = 1
    · have m0 : u.1 ≠ 0 := fun q => by
        rw [q] at ub2
        have : pop 0 = 0 := rfl
        omega
      have oc := ones_c u.1 ub1 m0
      have al : u.1 &&& (u.1 + 1) ≤ u.1 := Nat.and_le_left
      by_cases c : u.1 &&& (u.1 + 1) = 0
      · have hm := oc.mp c
        have bf : fX9_bitsOfFormula o z = some (nI (pop u.1)) := by
          unfold fX9_bitsOfFormula
          simp (disch := omega) only [b1, sel, d1, nI_and, c, bitC u.1 ub1, Option.bind_some, aI_n, aL_n, aQ_n, sA_n, sL_n, csA_n, i_0, i_1, i_2, i_3, i_4, i_5, i_6, i_7, i_8, i_9, i_10, i_11, i_12, i_13, i_16, i_20, i_21, i_22, i_31, i_99, i_100, i_256, i_1000, nI_eq, nI_leI, nI_ltI, nI_add, pk_mul, ↓reduceIte, nt_le, nf_le, nt_lt, nf_lt, nt_eq, nf_eq, meet_N', meet_P', meet_S', meet_Z', meet_B', meet_O', n_1, n_2, n_3, n_4, n_5, n_10, n_11]
        obtain ⟨v, v1, -, r1, v3, -⟩ := said_n (o := o) (x := 0) hw (by omega) w1 (fun k hk => rfl) hV0 hu d1
        have c0v : c0 = nI v := by
          have := fx1.symm.trans v3
          simp only [Option.some.injEq, Prod.mk.injEq] at this
          exact this.1
        rw [c0v] at fx1
        obtain ⟨z', r', n1, n2, n3⟩ := read_new h hp hw w1 (fun k hk => rfl) (fun k hk => (w3 k hk).symm) hu d1 fx2
        refine ⟨(nI (pop u.1), z'), (nI (pop u.1), r'), ?_, ?_, rfl, n3⟩
        · unfold fX9_read
          simp (disch := omega) only [isPl9_in hp, bf, Option.bind_some, aI_n, aL_n, aQ_n, sA_n, sL_n, csA_n, i_0, i_1, i_2, i_3, i_4, i_5, i_6, i_7, i_8, i_9, i_10, i_11, i_12, i_13, i_16, i_20, i_21, i_22, i_31, i_99, i_100, i_256, i_1000, nI_eq, nI_leI, nI_ltI, nI_add, pk_mul, ↓reduceIte, nt_le, nf_le, nt_lt, nf_lt, nt_eq, nf_eq, meet_N', meet_P', meet_S', meet_Z', meet_B', meet_O', n_1, n_2, n_3, n_4, n_5, n_10, n_11]
          exact n1
        · have hp2 := p2pos (n := pop u.1)
          have hp3 := p2le pl
          have eqm : nI u.1 = nI (2 ^ pop u.1 - 1) := congrArg nI hm
          rw [rm] at r21
          unfold fX10_read
          simp (disch := omega) only [w2, r21, isPl10_in hp, shl1' (pop u.1) (by omega), pk_sub, fx1, Option.bind_some, aI_n, aL_n, aQ_n, sA_n, sL_n, csA_n, i_0, i_1, i_2, i_3, i_4, i_5, i_6, i_7, i_8, i_9, i_10, i_11, i_12, i_13, i_16, i_20, i_21, i_22, i_31, i_99, i_100, i_256, i_1000, nI_eq, nI_leI, nI_ltI, nI_add, pk_mul, ↓reduceIte, nt_le, nf_le, nt_lt, nf_lt, nt_eq, nf_eq, meet_N', meet_P', meet_S', meet_Z', meet_B', meet_O', n_1, n_2, n_3, n_4, n_5, n_10, n_11]
          exact n2
      · refine refuse True ?_ (Or.inr (Or.inr (Or.inl ?_)))
        · unfold fX9_bitsOfFormula fX9_bitsOfFormula_J122
          simp (disch := omega) only [b1, sel, d1, nI_and, Option.bind_some, aI_n, aL_n, aQ_n, sA_n, sL_n, csA_n, i_0, i_1, i_2, i_3, i_4, i_5, i_6, i_7, i_8, i_9, i_10, i_11, i_12, i_13, i_16, i_20, i_21, i_22, i_31, i_99, i_100, i_256, i_1000, nI_eq, nI_leI, nI_ltI, nI_add, pk_mul, ↓reduceIte, nt_le, nf_le, nt_lt, nf_lt, nt_eq, nf_eq, meet_N', meet_P', meet_S', meet_Z', meet_B', meet_O', n_1, n_2, n_3, n_4, n_5, n_10, n_11]
        · rw [rm]
          simp only
          have hp2 := p2pos (n := pop u.1)
          have hp3 := p2le pl
          rw [shl1' (pop u.1) (by omega), pk_sub hp2, nI_eq (by omega) (by omega)]
          exact fun q => c (oc.mpr q)
    · refine refuse True ?_ (Or.inr (Or.inr (Or.inr (fx3 (fun q => d1 ?_)))))
      · unfold fX9_bitsOfFormula fX9_bitsOfFormula_J122
        simp (disch := omega) only [b1, sel, Option.bind_some, aI_n, aL_n, aQ_n, sA_n, sL_n, csA_n, i_0, i_1, i_2, i_3, i_4, i_5, i_6, i_7, i_8, i_9, i_10, i_11, i_12, i_13, i_16, i_20, i_21, i_22, i_31, i_99, i_100, i_256, i_1000, nI_eq, nI_leI, nI_ltI, nI_add, pk_mul, ↓reduceIte, nt_le, nf_le, nt_lt, nf_lt, nt_eq, nf_eq, meet_N', meet_P', meet_S', meet_Z', meet_B', meet_O', n_1, n_2, n_3, n_4, n_5, n_10, n_11]
      · rw [rp] at q
        exact Option.some.inj q
  · have bf : fX9_bitsOfFormula o z = some (-nI 2) := by
      unfold fX9_bitsOfFormula
      simp (disch := omega) only [b1, sel, Option.bind_some, aI_n, aL_n, aQ_n, sA_n, sL_n, csA_n, i_0, i_1, i_2, i_3, i_4, i_5, i_6, i_7, i_8, i_9, i_10, i_11, i_12, i_13, i_16, i_20, i_21, i_22, i_31, i_99, i_100, i_256, i_1000, nI_eq, nI_leI, nI_ltI, nI_add, pk_mul, ↓reduceIte, nt_le, nf_le, nt_lt, nf_lt, nt_eq, nf_eq, meet_N', meet_P', meet_S', meet_Z', meet_B', meet_O', n_1, n_2, n_3, n_4, n_5, n_10, n_11]
    rcases rel.2 hn with a | a
    · exact refuse True bf (Or.inl a)
    · exact refuse True bf (Or.inr (Or.inr (Or.inr (fx3 (fun q => by rw [a] at q; cases q)))))
