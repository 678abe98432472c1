theorem tree_n {o : Nat} {z0 : CS} {r0 : RS} {q n pl : Nat} {g : Nat → Nat} {bs : Bool} (hz : WZ z0 q n g bs) (hr : RZ r0 pl n g) (hpl : pl < 16) (hn : n ≤ 8) : ∀ (f c d N sp p w : Nat) (z : CS) (r : RS), nfree n c = f → d + f = n → c < 3 ^ n → N + 2 ^ (f + 1) ≤ 512 → 1 ≤ sp → sp + f ≤ 30 → w ≤ 2 → (w < 2 → p < N) → GTz z0 z N → GTr r0 r N → r.2.1 20 (sp - 1) = nI c → r.2.1 21 (sp - 1) = nI d → (w = 2 → r.2.1 22 (sp - 1) = -nI 1) → (w < 2 → r.2.1 22 (sp - 1) = nI p ∧ r.2.1 23 (sp - 1) = nI w) → ∃ S z' r', TP o z0 r0 pl bs f c d N sp p w z r S z' r' := by
  intro f
  induction f with
  | zero =>
    intro c d N sp p w z r hf hd hc hN h1 hsp hw hp gz gr h20 h21 h22 h23
    refine tree_s hz hr hn hd hc hN h1 hsp hw hp gz gr h20 h21 h22 h23 (fun h3 => ?_)
    obtain ⟨i, e⟩ := hasT_3 h3
    have := nfree_some e
    omega
  | succ f ih =>
    intro c d N sp p w z r hf hd hc hN h1 hsp hw hp gz gr h20 h21 h22 h23
    by_cases h3 : hasT n g c = 3
    · have h6 := p3le hn
      obtain ⟨b, eb, hb⟩ := bb_BB (bs := bs) hn h3
      have h2 := hb.2.1
      have hbn := hb.1
      have hge := dg_ge h2
      have hP := p3 b
      have f1 := nfree_sub (a := 1) hb.1 h2 (by omega) (by omega)
      have f2 := nfree_sub (a := 2) hb.1 h2 (by omega) (by omega)
      rw [Nat.one_mul] at f1
      have hpf := p2pos (n := f)
      have hpf2 : 2 ^ (f + 1) = 2 * 2 ^ f := by rw [Nat.pow_succ, Nat.mul_comm]
      have hpf3 : 2 ^ (f + 1 + 1) = 2 * 2 ^ (f + 1) := by rw [Nat.pow_succ, Nat.mul_comm]
      -- the class's first words
      have gz1 := gz.nx.up (k := 4) (i := N) (v := nI d) (by omega) (by omega)
      have gz2 := gz1.up (k := 3) (i := N) (v := nI b) (by omega) (by omega)
      have z1 := ((gz1.wz hz).2.2.2 c hc).1
      have bbn := bestBit_n (o := o) (gz1.wz hz) hn hc
      rw [eb] at bbn
      -- the reference's first words
      have gr2 := (((gr.nx.lk (p := p) (w := w) (v := nI N)).up (k := 17) (i := N) (v := nI d) (by omega) (by omega)).up (k := 18) (i := N) (v := -nI 1) (by omega) (by omega)).up (k := 19) (i := N) (v := -nI 1) (by omega) (by omega)
      have gr3 := gr2.up (k := 16) (i := N) (v := nI b) (by omega) (by omega)
      have rz2 := gr2.rz hr
      have r12 := (rz2.2.2.2.2.2 c hc).1
      have lkd := looked_n rz2.1 rz2.2.2 hn hc h3 hb
      have pu := push_n (sp := sp - 1) (c := c) (d := d) (N := N) (b := b) (l1 := nI pl) (l2 := bsI bs) (gr3.rz hr).1 (by omega) (by omega) hge
      generalize hz4 : cAr (cAr (cI z 6 (nI (N + 1))) 4 N (nI d)) 3 N (nI b) = z4 at *
      generalize hr4 : rA (rA (rA (rA (lk (rI r 5 (nI (N + 1))) p w (nI N)) 17 N (nI d)) 18 N (-nI 1)) 19 N (-nI 1)) 16 N (nI b) = r4 at *
      have gp := (gr3.push (i := sp - 1) (c := nI (c - 3 ^ b)) (d := nI (d + 1)) (p := nI N) (w := nI 1)).push (i := sp - 1 + 1) (c := nI (c - 2 * 3 ^ b)) (d := nI (d + 1)) (p := nI N) (w := nI 0)
      have t0 := push_20 (r := push r4 (sp - 1) (nI (c - 3 ^ b)) (nI (d + 1)) (nI N) (nI 1)) (i := sp - 1 + 1) (c := nI (c - 2 * 3 ^ b)) (d := nI (d + 1)) (p := nI N) (w := nI 0)
      have t1 := push_20 (r := r4) (i := sp - 1) (c := nI (c - 3 ^ b)) (d := nI (d + 1)) (p := nI N) (w := nI 1)
      have t1j : ∀ k, (push (push r4 (sp - 1) (nI (c - 3 ^ b)) (nI (d + 1)) (nI N) (nI 1)) (sp - 1 + 1) (nI (c - 2 * 3 ^ b)) (nI (d + 1)) (nI N) (nI 0)).2.1 k (sp - 1) = (push r4 (sp - 1) (nI (c - 3 ^ b)) (nI (d + 1)) (nI N) (nI 1)).2.1 k (sp - 1) := fun k => push_j (by omega)
      have pk : ∀ k, k < 20 → (push (push r4 (sp - 1) (nI (c - 3 ^ b)) (nI (d + 1)) (nI N) (nI 1)) (sp - 1 + 1) (nI (c - 2 * 3 ^ b)) (nI (d + 1)) (nI N) (nI 0)).2.1 k = r4.2.1 k := fun k hk => by rw [push_k hk, push_k hk]
      have pj : ∀ k j, 20 ≤ k → j + 1 < sp → (push (push r4 (sp - 1) (nI (c - 3 ^ b)) (nI (d + 1)) (nI N) (nI 1)) (sp - 1 + 1) (nI (c - 2 * 3 ^ b)) (nI (d + 1)) (nI N) (nI 0)).2.1 k j = r.2.1 k j := fun k j hk hj => by
        rw [push_j (by omega), push_j (by omega), ← hr4, rA_n (by omega), rA_n (by omega), rA_n (by omega), rA_n (by omega), lk_k (by omega)]
        rfl
      rw [show sp - 1 + 1 = sp by omega, show sp - 1 + 2 = sp + 1 by omega] at *
      generalize hr5 : push (push r4 (sp - 1) (nI (c - 3 ^ b)) (nI (d + 1)) (nI N) (nI 1)) sp (nI (c - 2 * 3 ^ b)) (nI (d + 1)) (nI N) (nI 0) = r5 at *
      -- the branch for 0
      obtain ⟨S1, z5, r6, a1, a2, a3, a4, a5, a6, a7, a8, a9, a10, a11, a12⟩ := ih (c - 2 * 3 ^ b) (d + 1) (N + 1) (sp + 1) N 0 z4 r5 (by omega) (by omega) (by omega) (by omega) (by omega) (by omega) (by omega) (fun _ => by omega) gz2 gp (by rw [show sp + 1 - 1 = sp by omega]; exact t0.1) (by rw [show sp + 1 - 1 = sp by omega]; exact t0.2.1) (fun h => by omega) (fun _ => by rw [show sp + 1 - 1 = sp by omega]; exact ⟨t0.2.2.1, t0.2.2.2⟩)
      rw [show sp + 1 - 1 = sp by omega] at a4
      have u : ∀ k, 20 ≤ k → r6.2.1 k (sp - 1) = (push r4 (sp - 1) (nI (c - 3 ^ b)) (nI (d + 1)) (nI N) (nI 1)).2.1 k (sp - 1) := fun k hk => by rw [a9 k (sp - 1) hk (by omega)]; exact t1j k
      -- the branch for 1
      obtain ⟨S2, z6, r7, b1, b2, b3, b4, b5, b6, b7, b8', b9, b10, b11, b12⟩ := ih (c - 3 ^ b) (d + 1) (N + 1 + S1) sp N 1 z5 r6 (by omega) (by omega) (by omega) (by omega) (by omega) (by omega) (by omega) (fun _ => by omega) a5 a6 (by rw [u 20 (by omega)]; exact t1.1) (by rw [u 21 (by omega)]; exact t1.2.1) (fun h => by omega) (fun _ => by rw [u 22 (by omega), u 23 (by omega)]; exact ⟨t1.2.2.1, t1.2.2.2⟩)
      have eS : N + (1 + S1 + S2) = N + 1 + S1 + S2 := by omega
      refine ⟨1 + S1 + S2, cAr z6 5 N (nI (N + 1 + S1 + S2)), r7, by omega, by omega, fun fu hfu => ?_, fun m => ?_, by rw [eS]; exact b5.up (by omega) (by omega), by rw [eS]; exact b6, fun k j hj => ?_, fun k j hk hj => ?_, fun k j hk hj => ?_, ?_, ?_, fun k hk1 hk2 => ?_⟩
      · obtain ⟨fu', rfl⟩ : ∃ m, fu = m + 1 := ⟨fu - 1, by omega⟩
        have w1 := a3 fu' (by omega)
        have w2 := b3 fu' (by omega)
        show fX5_grow_8_B o (fX5_grow_8 fu' o) z (nI c) (nI d) = _
        have z43 : z4.2.1 3 N = nI b := by rw [← hz4]; exact cAr_s
        unfold fX5_grow_8_B fX5_grow_8_B_J119 fX1_isSettled_5
        simp (disch := omega) only [gz.1, z1, h3, bbn, tI, hz4, z43, pow_n (show b ≤ 8 by omega), pk_sub, w1, w2, b5.1, Option.bind_some, aI_n, aL_n, aQ_n, sA_n, sL_n, csA_n, i_0, i_1, i_2, i_3, i_4, i_5, i_6, i_7, i_8, i_9, i_10, i_11, i_12, i_13, i_16, i_20, i_21, i_22, i_31, i_99, i_100, i_256, i_1000, nI_eq, nI_leI, nI_ltI, nI_add, pk_mul, ↓reduceIte, nt_le, nf_le, nt_lt, nf_lt, nt_eq, nf_eq, meet_N', meet_P', meet_S', meet_Z', meet_B', meet_O', n_1, n_2, n_3, n_4, n_5, n_10, n_11]
      · have step : (fun u => fX10_tree_L72 u.2 (nI pl) (bsI bs) u.1) (nI sp, r) = some (.inl (nI (sp + 1), r5)) := by
          show fX10_tree_L72 r (nI pl) (bsI bs) (nI sp) = _
          rw [take72 h1 (by omega) (by omega) hw hp gr.1 h20 h21 h22 h23]
          unfold fX10_tree_L72_J158 fX10_isSettled
          simp (disch := omega) only [r12, h3, rz2.2.1, lkd, hr4, pu, Option.bind_some, aI_n, aL_n, aQ_n, sA_n, sL_n, csA_n, i_0, i_1, i_2, i_3, i_4, i_5, i_6, i_7, i_8, i_9, i_10, i_11, i_12, i_13, i_16, i_20, i_21, i_22, i_31, i_99, i_100, i_256, i_1000, nI_eq, nI_leI, nI_ltI, nI_add, pk_mul, ↓reduceIte, nt_le, nf_le, nt_lt, nf_lt, nt_eq, nf_eq, meet_N', meet_P', meet_S', meet_Z', meet_B', meet_O', n_1, n_2, n_3, n_4, n_5, n_10, n_11]
        rw [show m + (1 + S1 + S2) = (m + S2 + S1) + 1 by omega, lpN_s step, a4 (m + S2), b4 m]
      · rw [cAr_j (by omega), b7 k j (by omega), a7 k j (by omega), ← hz4, cAr_j (by omega), cAr_j (by omega)]
        rfl
      · have hjN : j ≠ N := by omega
        rw [b8' k j hk (by omega), lk_j hjN, a8 k j hk (by omega), lk_j hjN, pk k hk, ← hr4, rA_j hjN, rA_j hjN, rA_j hjN, rA_j hjN]
        exact lkI (N := N)
      · rw [b9 k j hk hj, a9 k j hk (by omega)]
        exact pj k j hk hj
      · rw [cAr_s, eS]
      · rw [cAr_n (by omega), b7 4 N (by omega), a7 4 N (by omega), ← hz4, cAr_n (by omega)]
        exact cAr_s
      · rw [eS]
        by_cases e1 : k = N
        · subst e1
          have rr : ∀ i, i < 18 → r7.2.1 i k = r4.2.1 i k := fun i hi => by rw [b8' i k (by omega) (by omega), lk_k (by omega), a8 i k (by omega) (by omega), lk_k (by omega), pk i (by omega)]
          refine ⟨b, d, ?_, ?_, ?_, ?_, by omega, Or.inl ⟨by omega, ?_, k + 1 + S1, by omega, by omega, ?_, ?_, ?_, ?_⟩⟩
          · rw [cAr_n (by omega), b7 3 k (by omega), a7 3 k (by omega), ← hz4]
            exact cAr_s
          · rw [rr 16 (by omega), ← hr4]
            exact rA_s
          · rw [cAr_n (by omega), b7 4 k (by omega), a7 4 k (by omega), ← hz4, cAr_n (by omega)]
            exact cAr_s
          · rw [rr 17 (by omega), ← hr4, rA_n (by omega), rA_n (by omega), rA_n (by omega)]
            exact rA_s
          · rw [b8' 18 k (by omega) (by omega), show lk r6 k 1 (nI (k + 1 + S1)) = rA r6 19 k (nI (k + 1 + S1)) from rfl, rA_n (by omega), a8 18 k (by omega) (by omega), show lk r5 k 0 (nI (k + 1)) = rA r5 18 k (nI (k + 1)) from rfl]
            exact rA_s
          · rw [cAr_j (by omega), b7 5 (k + 1) (by omega)]
            exact a10
          · rw [b8' 19 k (by omega) (by omega), show lk r6 k 1 (nI (k + 1 + S1)) = rA r6 19 k (nI (k + 1 + S1)) from rfl]
            exact rA_s
          · rw [cAr_j (by omega), b7 4 (k + 1) (by omega)]
            exact a11
          · rw [cAr_j (by omega)]
            exact b11
        · by_cases e2 : k < N + 1 + S1
          · refine NdR_tr (lo := N + 1) (a12 k (by omega) e2) (by omega) e2 (by omega) (fun j j1 j2 => ?_)
            have hjN : j ≠ N := by omega
            have c1 : ∀ i, (cAr z6 5 N (nI (N + 1 + S1 + S2))).2.1 i j = z5.2.1 i j := fun i => by rw [cAr_j hjN, b7 i j (by omega)]
            have c2 : ∀ i, i < 20 → r7.2.1 i j = r6.2.1 i j := fun i hi => by rw [b8' i j hi (by omega), lk_j hjN]
            exact ⟨c1 3, c1 4, c1 5, c2 16 (by omega), c2 17 (by omega), c2 18 (by omega), c2 19 (by omega)⟩
          · refine NdR_tr (lo := N + 1 + S1) (b12 k (by omega) (by omega)) (Nat.le_refl _) (by omega) (by omega) (fun j j1 j2 => ?_)
            have hjN : j ≠ N := by omega
            exact ⟨cAr_j hjN, cAr_j hjN, cAr_j hjN, rfl, rfl, rfl, rfl⟩
    · exact tree_s hz hr hn hd hc hN h1 hsp hw hp gz gr h20 h21 h22 h23 h3
theorem nfree_all {n m : Nat} (h : m ≤ n) : nfree m (3 ^ n - 1) = m := by
  induction m with
  | zero => rfl
  | succ m ih => rw [nfree_2 (dg_all (by omega)), ih (by omega)]
/-- a new tree stands on both sides -/
theorem Sim_tree {o : Nat} {z z' : CS} {r r' : RS} {N : Nat} (h : Sim o z r) (gz : GTz z z' N) (gr : GTr r r' N) (hN : N ≤ 511) (h0 : 0 < N → z'.2.1 4 0 = 0) (hd : ∀ k, k < N → NdR N (z'.2.1 3) (z'.2.1 4) (z'.2.1 5) (r'.2.1 16) (r'.2.1 17) (r'.2.1 18) (r'.2.1 19) k) : Sim o z' r' := by
  obtain ⟨g1, g2, g3, g4, g5, g6, g7, g8, g9, g10, g11, g12, g13⟩ := h
  obtain ⟨a1, a2, a3, a4⟩ := gz
  obtain ⟨b1, b2, b3, b4⟩ := gr
  have hp : z'.2.2.2.2 = z.2.2.2.2 := by rw [a4]
  have ge : TkGe z z' := TkGe_id (by rw [hp])
  have rs : ∀ p, RSame r r' p := fun p => ⟨by rw [b3 0 (by omega)], by rw [b3 1 (by omega)], by rw [b3 2 (by omega)], fun x _ => by rw [b3 3 (by omega)]⟩
  refine ⟨?_, ?_, ?_, ?_, ?_, ?_, ?_, ⟨N, hN, a1, b1, h0, hd⟩, ?_, ?_, ?_, ?_, ?_⟩
  · unfold PoolOK cpl cn at g1 ⊢
    rw [hp]; exact g1
  · exact ShR_ge g2 (pool_ge hp) (ShR_okd g2) (by rw [a4]) ⟨b3 4 (by omega), b3 5 (by omega), by rw [b4]⟩
  · exact PlR_all g3 ge (fun j _ => by rw [a4]) (fun p _ => rs _)
  · exact PlR_all g4 ge (fun j _ => by rw [a4]) (fun p _ => rs _)
  · unfold WtR at g5 ⊢
    rw [a2 1 (by omega), a3 0 (by omega), b2 1 (by omega), b3 7 (by omega)]; exact g5
  · unfold ScR at g6 ⊢
    rw [a2 3 (by omega), a2 0 (by omega), a2 2 (by omega), b2 2 (by omega), b2 0 (by omega), b2 3 (by omega), b2 4 (by omega)]; exact g6
  · unfold PwR at g7 ⊢
    rw [b3 11 (by omega)]; exact g7
  · unfold FoR at g9 ⊢
    rw [a2 9 (by omega), a3 13 (by omega), b2 7 (by omega), b3 26 (by omega)]; exact g9
  · unfold LeR at g10 ⊢
    rw [a2 11 (by omega), a3 16 (by omega)]; exact g10
  · exact CuR_ge g11 ge (by rw [a4]) (a2 5 (by omega)) (a2 4 (by omega)) (a3 1 (by omega)) (a3 2 (by omega))
  · exact CuR_ge g12 ge (by rw [a4]) (a2 16 (by omega)) (a2 15 (by omega)) (a3 17 (by omega)) (a3 18 (by omega))
  · exact GaR_ge g13 ge (by rw [a4]) ⟨a2 12 (by omega), a2 13 (by omega), a2 14 (by omega), a2 15 (by omega)⟩ ⟨b2 8 (by omega), b2 9 (by omega), b3 29 (by omega), b3 30 (by omega)⟩
theorem St_tree_ok : St_tree Sim := by
  intro o z r a1 a2 h
  obtain ⟨h1, h2, h3, h4, h5, h6, h7, -⟩ := id h
  rcases ix a2 (n := 2) (by omega) with hx2 | ⟨v, hv, rfl⟩
  · unfold fX9_tree fX9_tree_J9 fX9_tree_J19 fX10_tree fX10_tree_J16
    refine ⟨(-2, z), (-2, r), ?_, ?_, rfl, h⟩
    · by_cases h0 : a2 < nI 0
      · simp (disch := omega) only [h0, Option.bind_some, aI_n, aL_n, aQ_n, sA_n, sL_n, csA_n, i_0, i_1, i_2, i_3, i_4, i_5, i_6, i_7, i_8, i_9, i_10, i_11, i_12, i_13, i_16, i_20, i_21, i_22, i_31, i_99, i_100, i_256, i_1000, nI_eq, nI_leI, nI_ltI, nI_add, pk_mul, ↓reduceIte, nt_le, nf_le, nt_lt, nf_lt, nt_eq, nf_eq, meet_N', meet_P', meet_S', meet_Z', meet_B', meet_O', n_1, n_2, n_3, n_4, n_5, n_10, n_11]
      · have c2 : ¬ a2 ≤ nI 1 := out4 (m := 1) (by omega) hx2 h0
        simp (disch := omega) only [h0, c2, Option.bind_some, aI_n, aL_n, aQ_n, sA_n, sL_n, csA_n, i_0, i_1, i_2, i_3, i_4, i_5, i_6, i_7, i_8, i_9, i_10, i_11, i_12, i_13, i_16, i_20, i_21, i_22, i_31, i_99, i_100, i_256, i_1000, nI_eq, nI_leI, nI_ltI, nI_add, pk_mul, ↓reduceIte, nt_le, nf_le, nt_lt, nf_lt, nt_eq, nf_eq, meet_N', meet_P', meet_S', meet_Z', meet_B', meet_O', n_1, n_2, n_3, n_4, n_5, n_10, n_11]
    · rcases ix a1 (n := 8) (by omega) with hx | ⟨s, hs, rfl⟩
      · simp (disch := omega) only [isPl10_out hx, Option.bind_some, aI_n, aL_n, aQ_n, sA_n, sL_n, csA_n, i_0, i_1, i_2, i_3, i_4, i_5, i_6, i_7, i_8, i_9, i_10, i_11, i_12, i_13, i_16, i_20, i_21, i_22, i_31, i_99, i_100, i_256, i_1000, nI_eq, nI_leI, nI_ltI, nI_add, pk_mul, ↓reduceIte, nt_le, nf_le, nt_lt, nf_lt, nt_eq, nf_eq, meet_N', meet_P', meet_S', meet_Z', meet_B', meet_O', n_1, n_2, n_3, n_4, n_5, n_10, n_11]
      · by_cases h0 : a2 < nI 0
        · simp (disch := omega) only [isPl10_in hs, h0, Option.bind_some, aI_n, aL_n, aQ_n, sA_n, sL_n, csA_n, i_0, i_1, i_2, i_3, i_4, i_5, i_6, i_7, i_8, i_9, i_10, i_11, i_12, i_13, i_16, i_20, i_21, i_22, i_31, i_99, i_100, i_256, i_1000, nI_eq, nI_leI, nI_ltI, nI_add, pk_mul, ↓reduceIte, nt_le, nf_le, nt_lt, nf_lt, nt_eq, nf_eq, meet_N', meet_P', meet_S', meet_Z', meet_B', meet_O', n_1, n_2, n_3, n_4, n_5, n_10, n_11]
        · have c2 : ¬ a2 ≤ nI 1 := out4 (m := 1) (by omega) hx2 h0
          simp (disch := omega) only [isPl10_in hs, h0, c2, Option.bind_some, aI_n, aL_n, aQ_n, sA_n, sL_n, csA_n, i_0, i_1, i_2, i_3, i_4, i_5, i_6, i_7, i_8, i_9, i_10, i_11, i_12, i_13, i_16, i_20, i_21, i_22, i_31, i_99, i_100, i_256, i_1000, nI_eq, nI_leI, nI_ltI, nI_add, pk_mul, ↓reduceIte, nt_le, nf_le, nt_lt, nf_lt, nt_eq, nf_eq, meet_N', meet_P', meet_S', meet_Z', meet_B', meet_O', n_1, n_2, n_3, n_4, n_5, n_10, n_11]
  rcases plc h3 a1 with hx | ⟨k, hk, rfl, e, e'⟩ | ⟨k, q, n, kd, wt, g, b, hk, rfl, e, t1, t2, n1, n8, hg, d1, d2, d3, p2, p1⟩
  · refine ⟨(-2, z), (-2, r), ?_, ?_, rfl, h⟩
    · unfold fX9_tree fX9_tree_J19
      simp (disch := omega) only [find9_out hx, Option.bind_some, aI_n, aL_n, aQ_n, sA_n, sL_n, csA_n, i_0, i_1, i_2, i_3, i_4, i_5, i_6, i_7, i_8, i_9, i_10, i_11, i_12, i_13, i_16, i_20, i_21, i_22, i_31, i_99, i_100, i_256, i_1000, nI_eq, nI_leI, nI_ltI, nI_add, pk_mul, ↓reduceIte, nt_le, nf_le, nt_lt, nf_lt, nt_eq, nf_eq, meet_N', meet_P', meet_S', meet_Z', meet_B', meet_O', n_1, n_2, n_3, n_4, n_5, n_10, n_11]
    · unfold fX10_tree fX10_tree_J16
      simp (disch := omega) only [isPl10_out hx, Option.bind_some, aI_n, aL_n, aQ_n, sA_n, sL_n, csA_n, i_0, i_1, i_2, i_3, i_4, i_5, i_6, i_7, i_8, i_9, i_10, i_11, i_12, i_13, i_16, i_20, i_21, i_22, i_31, i_99, i_100, i_256, i_1000, nI_eq, nI_leI, nI_ltI, nI_add, pk_mul, ↓reduceIte, nt_le, nf_le, nt_lt, nf_lt, nt_eq, nf_eq, meet_N', meet_P', meet_S', meet_Z', meet_B', meet_O', n_1, n_2, n_3, n_4, n_5, n_10, n_11]
  · refine ⟨(-10, _), (-10, _), ?_, ?_, rfl, Sim_met h⟩
    · unfold fX9_tree fX9_tree_J19
      simp (disch := omega) only [find9_no hk e, Option.bind_some, aI_n, aL_n, aQ_n, sA_n, sL_n, csA_n, i_0, i_1, i_2, i_3, i_4, i_5, i_6, i_7, i_8, i_9, i_10, i_11, i_12, i_13, i_16, i_20, i_21, i_22, i_31, i_99, i_100, i_256, i_1000, nI_eq, nI_leI, nI_ltI, nI_add, pk_mul, ↓reduceIte, nt_le, nf_le, nt_lt, nf_lt, nt_eq, nf_eq, meet_N', meet_P', meet_S', meet_Z', meet_B', meet_O', n_1, n_2, n_3, n_4, n_5, n_10, n_11] <;> rfl
    · unfold fX10_tree
      simp (disch := omega) only [isPl10_in hk, e', Option.bind_some, aI_n, aL_n, aQ_n, sA_n, sL_n, csA_n, i_0, i_1, i_2, i_3, i_4, i_5, i_6, i_7, i_8, i_9, i_10, i_11, i_12, i_13, i_16, i_20, i_21, i_22, i_31, i_99, i_100, i_256, i_1000, nI_eq, nI_leI, nI_ltI, nI_add, pk_mul, ↓reduceIte, nt_le, nf_le, nt_lt, nf_lt, nt_eq, nf_eq, meet_N', meet_P', meet_S', meet_Z', meet_B', meet_O', n_1, n_2, n_3, n_4, n_5, n_10, n_11] <;> rfl
  · obtain ⟨bs, hbs⟩ : ∃ bs : Bool, nI v = bsI bs := by
      rcases (show v = 0 ∨ v = 1 by omega) with rfl | rfl
      · exact ⟨false, rfl⟩
      · exact ⟨true, rfl⟩
    have h6' := p3le n8
    have h0 := p3 n
    obtain ⟨z', w1, w2, w3, w4, w5, w6, w7, w8, w9, w10⟩ := weighS_5 (o := o) (bs := bs) h t1
    obtain ⟨r', v1, v2⟩ := tell_n h7 (show k < 16 by omega) t2 hg n8
    have dz : dT z' q = some (kd, nI n, wt, some b) := by
      have : dT z' q = dT z q := by unfold dT cpl; rw [w6]
      rw [this]; exact d1
    have t2' : r'.2.1 0 k = nI n := by rw [v2.2.2.1 0 (by omega)]; exact t2.1
    have hpw := v2.pw h7
    have WZ0 : WZ z' q n g bs := ⟨w7, w8, ⟨kd, wt, b, dz⟩, w10⟩
    have RZ0 : RZ r' k n g := ⟨hpw, t2', rfl, rfl, fun _ _ => rfl, v2.2.2.2⟩
    have gz0 : GTz z' (cI z' 6 (nI 0)) 0 := ⟨cI_e, fun k hk => cI_n hk, fun _ _ => rfl, rfl⟩
    have gr0 : GTr r' (rI r' 5 (nI 0)) 0 := ⟨rI_e, fun k hk => rI_n hk, fun _ _ => rfl, rfl⟩
    have gr1 := ((gr0.up (k := 20) (i := 0) (v := nI (3 ^ n - 1)) (by omega) (by omega)).up (k := 21) (i := 0) (v := nI 0) (by omega) (by omega)).up (k := 22) (i := 0) (v := -nI 1) (by omega) (by omega)
    have hp9 : 2 ^ (n + 1) ≤ 512 := Nat.pow_le_pow_right (n := 2) (j := 9) (by omega) (by omega)
    obtain ⟨S, z2, r2, y1, y2, y3, y4, y5, y6, y7, y8, y9, y10, y11, y12⟩ := tree_n (o := o) WZ0 RZ0 (show k < 16 by omega) n8 n (3 ^ n - 1) 0 0 1 0 2 (cI z' 6 (nI 0)) _ (nfree_all (Nat.le_refl _)) (by omega) (by omega) (by omega) (by omega) (by omega) (by omega) (fun w => by omega) gz0 gr1 (by rw [rA_n (by omega), rA_n (by omega)]; exact rA_s) (by rw [rA_n (by omega)]; exact rA_s) (fun _ => rA_s) (fun w => by omega)
    rw [Nat.zero_add] at y5 y6 y10 y12
    have w2' : Sim o z' r' := v2.sim w2
    have fin : Sim o z2 r2 := Sim_tree w2' y5 y6 (by omega) (fun _ => y11) (fun j hj => by have := y12 j (Nat.zero_le _) (by omega); exact this)
    refine ⟨(nI S, z2), (nI S, r2), ?_, ?_, rfl, fin⟩
    · have x5 : (cI z' 6 (nI 0)).1 5 = nI (3 ^ n - 1) := by rw [cI_n (by omega)]; exact w9
      have yg := y3 24 (by omega)
      unfold fX9_tree fX9_tree_J19 fX9_tree_J46 fX5_growBy_8
      cases bs with
      | false =>
        have v0 : v = 0 := (nI_eq (by omega) (by omega)).mp hbs
        subst v0
        have w1' : fX1_weigh_5 o z q (nI 0) = some z' := w1
        simp (disch := omega) only [find9_yes hk e, e, w1', x5, yg, y5.1, Option.bind_some, aI_n, aL_n, aQ_n, sA_n, sL_n, csA_n, i_0, i_1, i_2, i_3, i_4, i_5, i_6, i_7, i_8, i_9, i_10, i_11, i_12, i_13, i_16, i_20, i_21, i_22, i_31, i_99, i_100, i_256, i_1000, nI_eq, nI_leI, nI_ltI, nI_add, pk_mul, ↓reduceIte, nt_le, nf_le, nt_lt, nf_lt, nt_eq, nf_eq, meet_N', meet_P', meet_S', meet_Z', meet_B', meet_O', n_1, n_2, n_3, n_4, n_5, n_10, n_11]
      | true =>
        have v0 : v = 1 := (nI_eq (by omega) (by omega)).mp hbs
        subst v0
        have w1' : fX1_weigh_5 o z q (nI 1) = some z' := w1
        simp (disch := omega) only [find9_yes hk e, e, w1', x5, yg, y5.1, Option.bind_some, aI_n, aL_n, aQ_n, sA_n, sL_n, csA_n, i_0, i_1, i_2, i_3, i_4, i_5, i_6, i_7, i_8, i_9, i_10, i_11, i_12, i_13, i_16, i_20, i_21, i_22, i_31, i_99, i_100, i_256, i_1000, nI_eq, nI_leI, nI_ltI, nI_add, pk_mul, ↓reduceIte, nt_le, nf_le, nt_lt, nf_lt, nt_eq, nf_eq, meet_N', meet_P', meet_S', meet_Z', meet_B', meet_O', n_1, n_2, n_3, n_4, n_5, n_10, n_11]
    · have hw : fX10_whole (rI r' 5 (nI 0)) (nI k) = some (nI (3 ^ n - 1)) := whole_n (r := rI r' 5 (nI 0)) hpw (show k < 16 by omega) t2' n8
      have y4' : lpN (fun u => fX10_tree_L72 u.2 (nI k) (bsI bs) u.1) bigN (nI 1, rA (rA (rA (rI r' 5 (nI 0)) 20 0 (nI (3 ^ n - 1))) 21 0 (nI 0)) 22 0 (-nI 1)) = some r2 := by
        have : bigN = (999999999 - S) + 1 + S := by
          show 1000000000 = _
          omega
        rw [this, y4]
        refine lpN_e ?_
        show fX10_tree_L72 r2 (nI k) (bsI bs) (nI (1 - 1)) = _
        unfold fX10_tree_L72
        simp (disch := omega) only [show 1 - 1 = 0 from rfl, Option.bind_some, aI_n, aL_n, aQ_n, sA_n, sL_n, csA_n, i_0, i_1, i_2, i_3, i_4, i_5, i_6, i_7, i_8, i_9, i_10, i_11, i_12, i_13, i_16, i_20, i_21, i_22, i_31, i_99, i_100, i_256, i_1000, nI_eq, nI_leI, nI_ltI, nI_add, pk_mul, ↓reduceIte, nt_le, nf_le, nt_lt, nf_lt, nt_eq, nf_eq, meet_N', meet_P', meet_S', meet_Z', meet_B', meet_O', n_1, n_2, n_3, n_4, n_5, n_10, n_11]
      rw [← hbs] at y4'
      unfold fX10_tree
      simp (disch := omega) only [isPl10_in hk, t2.1, v1, hw, y4', y6.1, Option.bind_some, aI_n, aL_n, aQ_n, sA_n, sL_n, csA_n, i_0, i_1, i_2, i_3, i_4, i_5, i_6, i_7, i_8, i_9, i_10, i_11, i_12, i_13, i_16, i_20, i_21, i_22, i_31, i_99, i_100, i_256, i_1000, nI_eq, nI_leI, nI_ltI, nI_add, pk_mul, ↓reduceIte, nt_le, nf_le, nt_lt, nf_lt, nt_eq, nf_eq, meet_N', meet_P', meet_S', meet_Z', meet_B', meet_O', n_1, n_2, n_3, n_4, n_5, n_10, n_11]
