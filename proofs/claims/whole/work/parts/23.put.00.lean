/-! ===== put ===== -/
/-- nothing waits on both sides -/
theorem Sim_w0 {o : Nat} {z : CS} {r : RS} (h : Sim o z r) : Sim o (cI z 1 (nI 0)) (rI r 1 (nI 0)) := by
  obtain ⟨h1, h2, h3, h4, h5, h6, h7, h8, h9, h10, h11, h12, h13⟩ := h
  exact ⟨h1, h2, h3, h4, ⟨0, by omega, rfl, rfl, fun k hk => by omega⟩, h6, h7, h8, h9, h10, h11, h12, h13⟩
theorem isPl_eq (v : Int32) : fX9_isPlace v = fX10_isPlace v := rfl
/-- the inner tasks' places -/
theorem put63 {z : CS} {r : RS} {w : Nat} {l1 l2 : Int32} (hw : w ≤ 100) (hv : ∀ k, k < w → z.2.1 0 k = r.2.1 7 k) (s0 : Nat) (hs0 : s0 ≤ 1) : ∃ v, v ≤ 1 ∧ lpN (fun u => fX10_put_L63 r l1 l2 (nI w) u.1 u.2) bigN (nI s0, nI 0) = some (nI v) ∧ (v = 1 ↔ s0 = 1 ∧ ∀ k, k < w → ∃ p, p < 8 ∧ z.2.1 0 k = nI p) := by
  have HH := lp_count (body := fun u => fX10_put_L63 r l1 l2 (nI w) u.1 u.2) (fun i st => ∃ v, st = (nI v, nI i) ∧ v ≤ 1 ∧ (v = 1 ↔ s0 = 1 ∧ ∀ k, k < i → ∃ p, p < 8 ∧ z.2.1 0 k = nI p)) w (fun e => ∃ v, e = nI v ∧ v ≤ 1 ∧ (v = 1 ↔ s0 = 1 ∧ ∀ k, k < w → ∃ p, p < 8 ∧ z.2.1 0 k = nI p)) (bigN_gt (by omega)) (fun i st hi hst => ?_) (fun st hst => ?_) (s := (nI s0, nI 0)) ⟨s0, rfl, hs0, fun q => ⟨q, fun k hk => by omega⟩, fun q => q.1⟩
  · obtain ⟨e, e1, v, rfl, e2, e3⟩ := HH
    exact ⟨v, e2, e1, e3⟩
  · obtain ⟨v, rfl, h1, h2⟩ := hst
    unfold fX10_put_L63
    have hvi := hv i hi
    rcases ix (z.2.1 0 i) (n := 8) (by omega) with hx | ⟨p, hp, e⟩
    · have hx' := hx
      rw [hvi] at hx'
      refine ⟨(nI 0, nI (i + 1)), ?_, 0, rfl, by omega, fun q => by omega, fun q => ?_⟩
      · simp (disch := omega) only [isPl10_out hx', nI_and, Nat.and_zero, Option.bind_some, aI_n, aL_n, aQ_n, sA_n, sL_n, csA_n, i_0, i_1, i_2, i_3, i_4, i_5, i_6, i_7, i_8, i_9, i_10, i_11, i_12, i_13, i_16, i_20, i_21, i_22, i_31, i_99, i_100, i_256, i_1000, nI_eq, nI_leI, nI_ltI, nI_add, pk_mul, ↓reduceIte, nt_le, nf_le, nt_lt, nf_lt, nt_eq, nf_eq, meet_N', meet_P', meet_S', meet_Z', meet_B', meet_O', n_1, n_2, n_3, n_4, n_5, n_10, n_11]
      · obtain ⟨p, hp, e⟩ := q.2 i (by omega)
        rw [e] at hx
        rcases hx with a | a
        · exact absurd a (nI_nlt0 (by omega))
        · exact absurd a (nI_ge hp (by omega))
    · have e' : r.2.1 7 i = nI p := by rw [← hvi]; exact e
      have a1 : v &&& 1 = v := by rcases (show v = 0 ∨ v = 1 by omega) with rfl | rfl <;> rfl
      refine ⟨(nI v, nI (i + 1)), ?_, v, rfl, h1, fun q => ⟨(h2.mp q).1, fun k hk => ?_⟩, fun q => h2.mpr ⟨q.1, fun k hk => q.2 k (by omega)⟩⟩
      · simp (disch := omega) only [e', isPl10_in hp, nI_and, a1, Option.bind_some, aI_n, aL_n, aQ_n, sA_n, sL_n, csA_n, i_0, i_1, i_2, i_3, i_4, i_5, i_6, i_7, i_8, i_9, i_10, i_11, i_12, i_13, i_16, i_20, i_21, i_22, i_31, i_99, i_100, i_256, i_1000, nI_eq, nI_leI, nI_ltI, nI_add, pk_mul, ↓reduceIte, nt_le, nf_le, nt_lt, nf_lt, nt_eq, nf_eq, meet_N', meet_P', meet_S', meet_Z', meet_B', meet_O', n_1, n_2, n_3, n_4, n_5, n_10, n_11]
      · by_cases ek : k = i
        · exact ⟨p, hp, by rw [ek]; exact e⟩
        · exact (h2.mp q).2 k (by omega)
  · obtain ⟨v, rfl, h1, h2⟩ := hst
    refine ⟨nI v, ?_, v, rfl, h1, h2⟩
    unfold fX10_put_L63
    simp (disch := omega) only [Option.bind_some, aI_n, aL_n, aQ_n, sA_n, sL_n, csA_n, i_0, i_1, i_2, i_3, i_4, i_5, i_6, i_7, i_8, i_9, i_10, i_11, i_12, i_13, i_16, i_20, i_21, i_22, i_31, i_99, i_100, i_256, i_1000, nI_eq, nI_leI, nI_ltI, nI_add, pk_mul, ↓reduceIte, nt_le, nf_le, nt_lt, nf_lt, nt_eq, nf_eq, meet_N', meet_P', meet_S', meet_Z', meet_B', meet_O', n_1, n_2, n_3, n_4, n_5, n_10, n_11]
theorem inner16 {o : Nat} {z : CS} {w : Nat} {l1 : Nat} (hw : w ≤ 100) (h1 : z.1 1 = nI w) : (lpN (fun u => fX9_findingOfInner_L16 o z l1 u) bigN (nI 0) = some (.inl ()) ∧ ∀ k, k < w → ∃ p, p < 8 ∧ z.2.1 0 k = nI p) ∨ (lpN (fun u => fX9_findingOfInner_L16 o z l1 u) bigN (nI 0) = some (.inr (-nI 2, z)) ∧ ¬ ∀ k, k < w → ∃ p, p < 8 ∧ z.2.1 0 k = nI p) := by
  have HH := lp_find (body := fun u => fX9_findingOfInner_L16 o z l1 u) (fun i => nI i) w (fun k => ¬ ∃ p, p < 8 ∧ z.2.1 0 k = nI p) (fun _ e => e = .inr (-nI 2, z)) (en := .inl ()) (bigN_gt (by omega)) (fun i hi hP => ?_) (fun i hi hP => ?_) ?_
  · rcases HH with ⟨a, b⟩ | ⟨i, e, a1, a2, a3, rfl, a4⟩
    · refine Or.inl ⟨a, fun k hk => ?_⟩
      by_cases q : ∃ p, p < 8 ∧ z.2.1 0 k = nI p
      · exact q
      · exact absurd q (b k hk)
    · exact Or.inr ⟨a4, fun q => a2 (q i a1)⟩
  · unfold fX9_findingOfInner_L16
    rcases ix (z.2.1 0 i) (n := 8) (by omega) with hx | ⟨p, hp, e⟩
    · exfalso
      refine hP (fun ⟨p, hp, e⟩ => ?_)
      rw [e] at hx
      rcases hx with a | a
      · exact absurd a (nI_nlt0 (by omega))
      · exact absurd a (nI_ge hp (by omega))
    · simp (disch := omega) only [h1, e, isPl9_in hp, Option.bind_some, aI_n, aL_n, aQ_n, sA_n, sL_n, csA_n, i_0, i_1, i_2, i_3, i_4, i_5, i_6, i_7, i_8, i_9, i_10, i_11, i_12, i_13, i_16, i_20, i_21, i_22, i_31, i_99, i_100, i_256, i_1000, nI_eq, nI_leI, nI_ltI, nI_add, pk_mul, ↓reduceIte, nt_le, nf_le, nt_lt, nf_lt, nt_eq, nf_eq, meet_N', meet_P', meet_S', meet_Z', meet_B', meet_O', n_1, n_2, n_3, n_4, n_5, n_10, n_11]
  · unfold fX9_findingOfInner_L16
    refine ⟨_, ?_, rfl⟩
    rcases ix (z.2.1 0 i) (n := 8) (by omega) with hx | ⟨p, hp, e⟩
    · simp (disch := omega) only [h1, isPl9_out hx, Option.bind_some, aI_n, aL_n, aQ_n, sA_n, sL_n, csA_n, i_0, i_1, i_2, i_3, i_4, i_5, i_6, i_7, i_8, i_9, i_10, i_11, i_12, i_13, i_16, i_20, i_21, i_22, i_31, i_99, i_100, i_256, i_1000, nI_eq, nI_leI, nI_ltI, nI_add, pk_mul, ↓reduceIte, nt_le, nf_le, nt_lt, nf_lt, nt_eq, nf_eq, meet_N', meet_P', meet_S', meet_Z', meet_B', meet_O', n_1, n_2, n_3, n_4, n_5, n_10, n_11]
    · exact absurd ⟨p, hp, e⟩ hP
  · unfold fX9_findingOfInner_L16
    simp (disch := omega) only [h1, Option.bind_some, aI_n, aL_n, aQ_n, sA_n, sL_n, csA_n, i_0, i_1, i_2, i_3, i_4, i_5, i_6, i_7, i_8, i_9, i_10, i_11, i_12, i_13, i_16, i_20, i_21, i_22, i_31, i_99, i_100, i_256, i_1000, nI_eq, nI_leI, nI_ltI, nI_add, pk_mul, ↓reduceIte, nt_le, nf_le, nt_lt, nf_lt, nt_eq, nf_eq, meet_N', meet_P', meet_S', meet_Z', meet_B', meet_O', n_1, n_2, n_3, n_4, n_5, n_10, n_11]
/-- an inner task, on both sides -/
def InT (z : CS) (r : RS) (k q n : Nat) (wt : Int32) (g : Nat → Nat) (b : Nat) : Prop := ∃ (p : Nat) (kd : Int32), p < 8 ∧ z.2.1 0 k = nI p ∧ r.2.1 7 k = nI p ∧ z.2.2.1 1 p = some q ∧ TkAt z q n kd wt g ∧ TkR r p n kd wt g ∧ dT z q = some (kd, nI n, wt, some b) ∧ 1 ≤ n ∧ n ≤ 8 ∧ (∀ x, g x ≤ 2)
/-- what is told of the inner tasks: their bits, their worth, whether all are told -/
theorem put122 {o : Nat} {z : CS} {r : RS} {w : Nat} {l1 l2 : Int32} {ad : Nat} (hw : w ≤ 100) (h1 : z.1 1 = nI w) (h3 : PlR z r 1 0) (hv : ∀ k, k < w → z.2.1 0 k = r.2.1 7 k) (hpl : ∀ k, k < w → ∃ p, p < 8 ∧ z.2.1 0 k = nI p) (t0 : Nat) (ht0 : t0 ≤ 1) : ∃ e1 e2, lpN (fun u => fX9_findingOfInner_L55 o u.2.2.2 u.1 u.2.1 u.2.2.1) bigN (nI 0, nI t0, nI 0, z) = some e1 ∧ lpN (fun u => fX10_put_L122 u.2.2.2.2 l1 l2 (nI w) u.1 u.2.1 u.2.2.1 u.2.2.2.1) bigN (nI (1 - t0), nI 0, nI 0, nI 0, r) = some e2 ∧ ((e1 = .inr (-nI 10, cI z 3 (z.1 3 + nI 1)) ∧ e2 = .inr (-nI 10, rI r 2 (r.1 2 + nI 1))) ∨ ∃ S t W, e1 = .inl (nI S, nI t, z) ∧ e2 = .inl (nI (1 - t), nI S, W, r) ∧ t ≤ 1 ∧ w ≤ S ∧ S ≤ 8 * w ∧ lpN (fun u => fX9_putTogether_L7 o z ad u.1 u.2.1 u.2.2) bigN (nI 0, nI 0, nI 0) = some (nI S, W) ∧ (t = 1 → t0 = 1 ∧ ∀ k, k < w → ∃ q n wt g b, InT z r k q n wt g b ∧ cnt g 2 (2 ^ n) = 0)) := by
  have HH := lp_pair (b1 := fun u => fX9_findingOfInner_L55 o u.2.2.2 u.1 u.2.1 u.2.2.1) (b2 := fun u => fX10_put_L122 u.2.2.2.2 l1 l2 (nI w) u.1 u.2.1 u.2.2.1 u.2.2.2.1) (fun s1 s2 => ∃ i S t W, i ≤ w ∧ t ≤ 1 ∧ (i ≤ S ∧ S ≤ 8 * i) ∧ s1 = (nI S, nI t, nI i, z) ∧ s2 = (nI (1 - t), nI S, W, nI i, r) ∧ (∀ m, lpN (fun u => fX9_putTogether_L7 o z ad u.1 u.2.1 u.2.2) (m + i) (nI 0, nI 0, nI 0) = lpN (fun u => fX9_putTogether_L7 o z ad u.1 u.2.1 u.2.2) m (nI S, W, nI i)) ∧ (t = 1 → t0 = 1 ∧ ∀ k, k < i → ∃ q n wt g b, InT z r k q n wt g b ∧ cnt g 2 (2 ^ n) = 0)) (fun s => 1000 - s.2.2.1.toNatClampNeg) (fun e1 e2 => (e1 = .inr (-nI 10, cI z 3 (z.1 3 + nI 1)) ∧ e2 = .inr (-nI 10, rI r 2 (r.1 2 + nI 1))) ∨ ∃ S t W, e1 = .inl (nI S, nI t, z) ∧ e2 = .inl (nI (1 - t), nI S, W, r) ∧ t ≤ 1 ∧ w ≤ S ∧ S ≤ 8 * w ∧ lpN (fun u => fX9_putTogether_L7 o z ad u.1 u.2.1 u.2.2) bigN (nI 0, nI 0, nI 0) = some (nI S, W) ∧ (t = 1 → t0 = 1 ∧ ∀ k, k < w → ∃ q n wt g b, InT z r k q n wt g b ∧ cnt g 2 (2 ^ n) = 0)) (fun s1 s2 hs => ?_) bigN (nI 0, nI t0, nI 0, z) (nI (1 - t0), nI 0, nI 0, nI 0, r) ⟨0, 0, t0, nI 0, Nat.zero_le _, ht0, ⟨by omega, by omega⟩, rfl, rfl, fun m => rfl, fun q => ⟨q, fun k hk => by omega⟩⟩ (by show 1000 - _ < 1000000000; omega)
  · exact HH
  · obtain ⟨i, S, t, W, hi, ht, hS, rfl, rfl, hL, hT⟩ := hs
    unfold fX9_findingOfInner_L55 fX9_findingOfInner_L55_J106 fX9_findingOfInner_L55_J107 fX10_put_L122 fX10_put_L122_J171
    by_cases hiw : i = w
    · subst hiw
      right
      refine ⟨.inl (nI S, nI t, z), .inl (nI (1 - t), nI S, W, r), ?_, ?_, Or.inr ⟨S, t, W, rfl, rfl, ht, hS.1, hS.2, ?_, hT⟩⟩
      · simp (disch := omega) only [h1, Option.bind_some, aI_n, aL_n, aQ_n, sA_n, sL_n, csA_n, i_0, i_1, i_2, i_3, i_4, i_5, i_6, i_7, i_8, i_9, i_10, i_11, i_12, i_13, i_16, i_20, i_21, i_22, i_31, i_99, i_100, i_256, i_1000, nI_eq, nI_leI, nI_ltI, nI_add, pk_mul, ↓reduceIte, nt_le, nf_le, nt_lt, nf_lt, nt_eq, nf_eq, meet_N', meet_P', meet_S', meet_Z', meet_B', meet_O', n_1, n_2, n_3, n_4, n_5, n_10, n_11]
      · simp (disch := omega) only [Option.bind_some, aI_n, aL_n, aQ_n, sA_n, sL_n, csA_n, i_0, i_1, i_2, i_3, i_4, i_5, i_6, i_7, i_8, i_9, i_10, i_11, i_12, i_13, i_16, i_20, i_21, i_22, i_31, i_99, i_100, i_256, i_1000, nI_eq, nI_leI, nI_ltI, nI_add, pk_mul, ↓reduceIte, nt_le, nf_le, nt_lt, nf_lt, nt_eq, nf_eq, meet_N', meet_P', meet_S', meet_Z', meet_B', meet_O', n_1, n_2, n_3, n_4, n_5, n_10, n_11]
      · have e : bigN = (999999999 - i) + 1 + i := by show 1000000000 = _; omega
        rw [e, hL]
        refine lpN_e ?_
        show fX9_putTogether_L7 o z ad (nI S) W (nI i) = _
        unfold fX9_putTogether_L7
        simp (disch := omega) only [h1, Option.bind_some, aI_n, aL_n, aQ_n, sA_n, sL_n, csA_n, i_0, i_1, i_2, i_3, i_4, i_5, i_6, i_7, i_8, i_9, i_10, i_11, i_12, i_13, i_16, i_20, i_21, i_22, i_31, i_99, i_100, i_256, i_1000, nI_eq, nI_leI, nI_ltI, nI_add, pk_mul, ↓reduceIte, nt_le, nf_le, nt_lt, nf_lt, nt_eq, nf_eq, meet_N', meet_P', meet_S', meet_Z', meet_B', meet_O', n_1, n_2, n_3, n_4, n_5, n_10, n_11]
    · have hlt : i < w := by omega
      obtain ⟨p, hp, ep⟩ := hpl i hlt
      have ep' : r.2.1 7 i = nI p := by rw [← hv i hlt]; exact ep
      have hp16 : p < 16 := by omega
      cases e : z.2.2.1 1 p with
      | none =>
        right
        have e' := PlR_no h3 hp e
        refine ⟨.inr (-nI 10, cI z 3 (z.1 3 + nI 1)), .inr (-nI 10, rI r 2 (r.1 2 + nI 1)), ?_, ?_, Or.inl ⟨rfl, rfl⟩⟩
        · simp (disch := omega) only [h1, ep, e, qc, counted_n, Option.bind_some, aI_n, aL_n, aQ_n, sA_n, sL_n, csA_n, i_0, i_1, i_2, i_3, i_4, i_5, i_6, i_7, i_8, i_9, i_10, i_11, i_12, i_13, i_16, i_20, i_21, i_22, i_31, i_99, i_100, i_256, i_1000, nI_eq, nI_leI, nI_ltI, nI_add, pk_mul, ↓reduceIte, nt_le, nf_le, nt_lt, nf_lt, nt_eq, nf_eq, meet_N', meet_P', meet_S', meet_Z', meet_B', meet_O', n_1, n_2, n_3, n_4, n_5, n_10, n_11]
        · simp (disch := omega) only [ep', e', show (0 : Int32) = nI 0 from rfl, Option.bind_some, aI_n, aL_n, aQ_n, sA_n, sL_n, csA_n, i_0, i_1, i_2, i_3, i_4, i_5, i_6, i_7, i_8, i_9, i_10, i_11, i_12, i_13, i_16, i_20, i_21, i_22, i_31, i_99, i_100, i_256, i_1000, nI_eq, nI_leI, nI_ltI, nI_add, pk_mul, ↓reduceIte, nt_le, nf_le, nt_lt, nf_lt, nt_eq, nf_eq, meet_N', meet_P', meet_S', meet_Z', meet_B', meet_O', n_1, n_2, n_3, n_4, n_5, n_10, n_11]
      | some q =>
        left
        obtain ⟨n, kd, wt, g, t1, t2⟩ := PlR_yes h3 hp e
        obtain ⟨n1, n8, hg⟩ := Tk_n t1
        obtain ⟨b, d1, d2, d3⟩ := Tk_rd t1
        have p2 := p2le n8
        have cl := cnt_le g 2 (2 ^ n)
        have inT : InT z r i q n wt g b := ⟨p, kd, hp, ep, ep', e, t1, t2, d1, n1, n8, hg⟩
        have t' : ∃ t', t' ≤ 1 ∧ t' = (if t = 1 ∧ cnt g 2 (2 ^ n) = 0 then 1 else 0) := ⟨_, by split <;> omega, rfl⟩
        obtain ⟨t', ht', et'⟩ := t'
        refine ⟨(nI (S + n), nI t', nI (i + 1), z), (nI (1 - t'), nI (S + n), W + wt, nI (i + 1), r), ?_, ?_, ⟨i + 1, S + n, t', W + wt, by omega, ht', ⟨by omega, by omega⟩, rfl, rfl, fun m => ?_, fun q1 => ?_⟩, ?_⟩
        · by_cases c0 : t = 0
          · subst c0
            rw [if_neg (by omega)] at et'
            subst et'
            simp (disch := omega) only [h1, ep, e, qc, d1, Option.bind_some, aI_n, aL_n, aQ_n, sA_n, sL_n, csA_n, i_0, i_1, i_2, i_3, i_4, i_5, i_6, i_7, i_8, i_9, i_10, i_11, i_12, i_13, i_16, i_20, i_21, i_22, i_31, i_99, i_100, i_256, i_1000, nI_eq, nI_leI, nI_ltI, nI_add, pk_mul, ↓reduceIte, nt_le, nf_le, nt_lt, nf_lt, nt_eq, nf_eq, meet_N', meet_P', meet_S', meet_Z', meet_B', meet_O', n_1, n_2, n_3, n_4, n_5, n_10, n_11]
          · have c1 : t = 1 := by omega
            subst c1
            by_cases ct : cnt g 2 (2 ^ n) = 0
            · rw [if_pos ⟨rfl, ct⟩] at et'
              subst et'
              simp (disch := omega) only [h1, ep, e, qc, d1, isTold_y t1 (told_cnt.mpr ct), Option.bind_some, aI_n, aL_n, aQ_n, sA_n, sL_n, csA_n, i_0, i_1, i_2, i_3, i_4, i_5, i_6, i_7, i_8, i_9, i_10, i_11, i_12, i_13, i_16, i_20, i_21, i_22, i_31, i_99, i_100, i_256, i_1000, nI_eq, nI_leI, nI_ltI, nI_add, pk_mul, ↓reduceIte, nt_le, nf_le, nt_lt, nf_lt, nt_eq, nf_eq, meet_N', meet_P', meet_S', meet_Z', meet_B', meet_O', n_1, n_2, n_3, n_4, n_5, n_10, n_11]
            · rw [if_neg (fun w => ct w.2)] at et'
              subst et'
              simp (disch := omega) only [h1, ep, e, qc, d1, isTold_n t1 (fun w => ct (told_cnt.mp w)), Option.bind_some, aI_n, aL_n, aQ_n, sA_n, sL_n, csA_n, i_0, i_1, i_2, i_3, i_4, i_5, i_6, i_7, i_8, i_9, i_10, i_11, i_12, i_13, i_16, i_20, i_21, i_22, i_31, i_99, i_100, i_256, i_1000, nI_eq, nI_leI, nI_ltI, nI_add, pk_mul, ↓reduceIte, nt_le, nf_le, nt_lt, nf_lt, nt_eq, nf_eq, meet_N', meet_P', meet_S', meet_Z', meet_B', meet_O', n_1, n_2, n_3, n_4, n_5, n_10, n_11]
        · have op := opens_n hp16 t2 n8 hg
          have wo := worth_n hp16 t2
          by_cases ct : cnt g 2 (2 ^ n) = 0
          · have a1 : (1 - t) ||| 0 = 1 - t' := by
              rw [Nat.or_zero, et']
              by_cases c : t = 1
              · rw [if_pos ⟨c, ct⟩, c]
              · rw [if_neg (fun w => c w.1)]; omega
            simp (disch := omega) only [ep', t2.1, op, ct, wo, nI_or, a1, Option.bind_some, aI_n, aL_n, aQ_n, sA_n, sL_n, csA_n, i_0, i_1, i_2, i_3, i_4, i_5, i_6, i_7, i_8, i_9, i_10, i_11, i_12, i_13, i_16, i_20, i_21, i_22, i_31, i_99, i_100, i_256, i_1000, nI_eq, nI_leI, nI_ltI, nI_add, pk_mul, ↓reduceIte, nt_le, nf_le, nt_lt, nf_lt, nt_eq, nf_eq, meet_N', meet_P', meet_S', meet_Z', meet_B', meet_O', n_1, n_2, n_3, n_4, n_5, n_10, n_11]
          · have a1 : (1 - t) ||| 1 = 1 - t' := by
              rw [et', if_neg (fun w => ct w.2)]
              rcases (show t = 0 ∨ t = 1 by omega) with rfl | rfl <;> rfl
            simp (disch := omega) only [ep', t2.1, op, wo, nI_or, a1, Option.bind_some, aI_n, aL_n, aQ_n, sA_n, sL_n, csA_n, i_0, i_1, i_2, i_3, i_4, i_5, i_6, i_7, i_8, i_9, i_10, i_11, i_12, i_13, i_16, i_20, i_21, i_22, i_31, i_99, i_100, i_256, i_1000, nI_eq, nI_leI, nI_ltI, nI_add, pk_mul, ↓reduceIte, nt_le, nf_le, nt_lt, nf_lt, nt_eq, nf_eq, meet_N', meet_P', meet_S', meet_Z', meet_B', meet_O', n_1, n_2, n_3, n_4, n_5, n_10, n_11]
        · rw [show m + (i + 1) = (m + 1) + i by omega, hL]
          refine lpN_s ?_
          show fX9_putTogether_L7 o z ad (nI S) W (nI i) = _
          unfold fX9_putTogether_L7
          simp (disch := omega) only [h1, ep, e, d1, Option.bind_some, aI_n, aL_n, aQ_n, sA_n, sL_n, csA_n, i_0, i_1, i_2, i_3, i_4, i_5, i_6, i_7, i_8, i_9, i_10, i_11, i_12, i_13, i_16, i_20, i_21, i_22, i_31, i_99, i_100, i_256, i_1000, nI_eq, nI_leI, nI_ltI, nI_add, pk_mul, ↓reduceIte, nt_le, nf_le, nt_lt, nf_lt, nt_eq, nf_eq, meet_N', meet_P', meet_S', meet_Z', meet_B', meet_O', n_1, n_2, n_3, n_4, n_5, n_10, n_11]
        · by_cases c : t = 1 ∧ cnt g 2 (2 ^ n) = 0
          · obtain ⟨c1, c2⟩ := hT c.1
            refine ⟨c1, fun k hk => ?_⟩
            by_cases ek : k = i
            · rw [ek]; exact ⟨q, n, wt, g, b, inT, c.2⟩
            · exact c2 k (by omega)
          · rw [if_neg c] at et'; omega
        · show 1000 - (nI (i + 1)).toNatClampNeg < 1000 - (nI i).toNatClampNeg
          rw [nI_clamp (by omega), nI_clamp (by omega)]
          omega
