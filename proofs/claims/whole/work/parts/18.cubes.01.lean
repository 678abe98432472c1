theorem bestF_2 {i c : Nat} {w : Nat → Nat} (h : dg c i = 2) : bestF (i + 1) w c = min (bestF i w c) (w i) := if_pos h
theorem bestF_n {i c : Nat} {w : Nat → Nat} (h : ¬ dg c i = 2) : bestF (i + 1) w c = bestF i w c := if_neg h
theorem top_2 {i c : Nat} (h : dg c i = 2) : top (i + 1) c = some i := if_pos h
theorem top_n {i c : Nat} (h : ¬ dg c i = 2) : top (i + 1) c = top i c := if_neg h
theorem nfree_2 {i c : Nat} (h : dg c i = 2) : nfree (i + 1) c = nfree i c + 1 := by
  show nfree i c + (if dg c i = 2 then 1 else 0) = _
  rw [if_pos h]
theorem nfree_n {i c : Nat} (h : ¬ dg c i = 2) : nfree (i + 1) c = nfree i c := by
  show nfree i c + (if dg c i = 2 then 1 else 0) = _
  rw [if_neg h]
  rfl
theorem inpR_1 {i c : Nat} (h : dg c i = 1) : inpR (i + 1) c = inpR i c + 2 ^ i := by
  show inpR i c + (if dg c i = 1 then 2 ^ i else 0) = _
  rw [if_pos h]
theorem inpR_n {i c : Nat} (h : ¬ dg c i = 1) : inpR (i + 1) c = inpR i c := by
  show inpR i c + (if dg c i = 1 then 2 ^ i else 0) = _
  rw [if_neg h]
  rfl
theorem rA_n {r : RS} {k i j : Nat} {x : Int32} (h : j ≠ k) : (rA r k i x).2.1 j = r.2.1 j := if_neg h
theorem rA_e {r : RS} {k i : Nat} {x : Int32} : (rA r k i x).2.1 k = upd (r.2.1 k) i x := if_pos rfl
/-- only arrays that no part of the relation speaks of have changed -/
theorem Sim_r {o : Nat} {z : CS} {r r' : RS} (h : Sim o z r) (hr1 : ∀ k, k ≠ 6 → r'.1 k = r.1 k) (hr2 : ∀ k, (k < 6 ∨ k = 7 ∨ k = 11 ∨ (16 ≤ k ∧ k ≤ 19) ∨ k = 26 ∨ k = 29 ∨ k = 30) → r'.2.1 k = r.2.1 k) (hr3 : r'.2.2 6 = r.2.2 6) : Sim o z r' := by
  obtain ⟨h1, h2, h3, h4, -⟩ := id h
  have rs : ∀ p, RSame r r' p := fun p => ⟨by rw [hr2 0 (by omega)], by rw [hr2 1 (by omega)], by rw [hr2 2 (by omega)], fun x _ => by rw [hr2 3 (by omega)]⟩
  exact Sim_g h (fun _ _ _ _ => rfl) (fun _ _ => rfl) rfl TkGe.rf hr1 (fun k hk => hr2 k (by omega)) h1 (ShR_ge h2 PoolGe.rf (ShR_okd h2) rfl ⟨hr2 4 (by omega), hr2 5 (by omega), hr3⟩) (PlR_all h3 TkGe.rf (fun _ _ => rfl) (fun p _ => rs _)) (PlR_all h4 TkGe.rf (fun _ _ => rfl) (fun p _ => rs _))
theorem p3le {n : Nat} (h : n ≤ 8) : 3 ^ n ≤ 6561 := Nat.pow_le_pow_right (n := 3) (j := 8) (by omega) h
theorem dvI_n {a b : Nat} (ha : a < 2 ^ 31) (h0 : 0 < b) (hb : b < 2 ^ 31) : dvI (nI a) (nI b) = some (nI (a / b)) := by
  unfold dvI
  rw [if_neg (nI_n0 h0 hb), pk_div ha h0 hb]
theorem rem3 {a : Nat} (ha : a < 2 ^ 31) : nI a - nI a / nI 3 * nI 3 = nI (a % 3) := pk_rem ha (by omega) (by omega)
theorem digit_n {r : RS} {c i : Nat} (h : PwR r) (hc : c < 6561) (hi : i ≤ 8) : fX10_digit r (nI c) (nI i) = some (nI (dg c i)) := by
  have h3 := p3 i
  have h4 := p3le hi
  have h5 : c / 3 ^ i ≤ c := Nat.div_le_self _ _
  unfold fX10_digit
  simp (disch := omega) only [h i hi, dvI_n (show c < 2 ^ 31 by omega) h3 (show 3 ^ i < 2 ^ 31 by omega), rem3 (show c / 3 ^ i < 2 ^ 31 by omega), Option.bind_some, aI_n, aL_n, aQ_n, sA_n, sL_n, csA_n, i_0, i_1, i_2, i_3, i_4, i_5, i_6, i_7, i_8, i_9, i_10, i_11, i_12, i_13, i_16, i_20, i_21, i_22, i_31, i_99, i_100, i_256, i_1000, nI_eq, nI_leI, nI_ltI, nI_add, pk_mul, ↓reduceIte, nt_le, nf_le, nt_lt, nf_lt, nt_eq, nf_eq, meet_N', meet_P', meet_S', meet_Z', meet_B', meet_O', n_1, n_2, n_3, n_4, n_5, n_10, n_11]
  rfl
def tI : Option Nat → Int32
  | none => -nI 1
  | some j => nI j
theorem tell28 {r : RS} {n c : Nat} {l1 : Int32} (h : PwR r) (hc : c < 6561) (hn : n ≤ 8) : lpN (fun u => fX10_tellCubes_L28 r l1 (nI n) (nI c) u.1 u.2.1 u.2.2) bigN (nI 0, -nI 1, nI 0) = some (nI (inpR n c), tI (top n c)) := by
  refine lp_det (fun i => (nI (inpR i c), tI (top i c), nI i)) n (bigN_gt (by omega)) (fun i hi => ?_) ?_
  · unfold fX10_tellCubes_L28 fX10_tellCubes_L28_J56 fX10_tellCubes_L28_J74
    have h1 := dg_lt c i
    have h2 := inpR_lt i c
    rcases (show dg c i = 0 ∨ dg c i = 1 ∨ dg c i = 2 by omega) with e | e | e
    · have e1 : inpR (i + 1) c = inpR i c := inpR_n (by omega)
      have e2 : top (i + 1) c = top i c := top_n (by omega)
      simp (disch := omega) only [digit_n h hc (show i ≤ 8 by omega), e, nI_or, Nat.or_zero, e1, e2, Option.bind_some, aI_n, aL_n, aQ_n, sA_n, sL_n, csA_n, i_0, i_1, i_2, i_3, i_4, i_5, i_6, i_7, i_8, i_9, i_10, i_11, i_12, i_13, i_16, i_20, i_21, i_22, i_31, i_99, i_100, i_256, i_1000, nI_eq, nI_leI, nI_ltI, nI_add, pk_mul, ↓reduceIte, nt_le, nf_le, nt_lt, nf_lt, nt_eq, nf_eq, meet_N', meet_P', meet_S', meet_Z', meet_B', meet_O', n_1, n_2, n_3, n_4, n_5, n_10, n_11]
    · have e1 : inpR (i + 1) c = inpR i c + 2 ^ i := inpR_1 e
      have e2 : top (i + 1) c = top i c := top_n (by omega)
      simp (disch := omega) only [digit_n h hc (show i ≤ 8 by omega), e, shl1' i (by omega), nI_or, or_pow h2, e1, e2, Option.bind_some, aI_n, aL_n, aQ_n, sA_n, sL_n, csA_n, i_0, i_1, i_2, i_3, i_4, i_5, i_6, i_7, i_8, i_9, i_10, i_11, i_12, i_13, i_16, i_20, i_21, i_22, i_31, i_99, i_100, i_256, i_1000, nI_eq, nI_leI, nI_ltI, nI_add, pk_mul, ↓reduceIte, nt_le, nf_le, nt_lt, nf_lt, nt_eq, nf_eq, meet_N', meet_P', meet_S', meet_Z', meet_B', meet_O', n_1, n_2, n_3, n_4, n_5, n_10, n_11]
    · have e1 : inpR (i + 1) c = inpR i c := inpR_n (by omega)
      have e2 : tI (top (i + 1) c) = nI i := by rw [top_2 e]; rfl
      simp (disch := omega) only [digit_n h hc (show i ≤ 8 by omega), e, nI_or, Nat.or_zero, e1, e2, Option.bind_some, aI_n, aL_n, aQ_n, sA_n, sL_n, csA_n, i_0, i_1, i_2, i_3, i_4, i_5, i_6, i_7, i_8, i_9, i_10, i_11, i_12, i_13, i_16, i_20, i_21, i_22, i_31, i_99, i_100, i_256, i_1000, nI_eq, nI_leI, nI_ltI, nI_add, pk_mul, ↓reduceIte, nt_le, nf_le, nt_lt, nf_lt, nt_eq, nf_eq, meet_N', meet_P', meet_S', meet_Z', meet_B', meet_O', n_1, n_2, n_3, n_4, n_5, n_10, n_11]
  · unfold fX10_tellCubes_L28
    simp (disch := omega) only [Option.bind_some, aI_n, aL_n, aQ_n, sA_n, sL_n, csA_n, i_0, i_1, i_2, i_3, i_4, i_5, i_6, i_7, i_8, i_9, i_10, i_11, i_12, i_13, i_16, i_20, i_21, i_22, i_31, i_99, i_100, i_256, i_1000, nI_eq, nI_leI, nI_ltI, nI_add, pk_mul, ↓reduceIte, nt_le, nf_le, nt_lt, nf_lt, nt_eq, nf_eq, meet_N', meet_P', meet_S', meet_Z', meet_B', meet_O', n_1, n_2, n_3, n_4, n_5, n_10, n_11]
def CubR (r0 r : RS) (n : Nat) (g : Nat → Nat) (m : Nat) : Prop := r.1 = r0.1 ∧ r.2.2 = r0.2.2 ∧ (∀ k, (k < 12 ∨ 16 ≤ k) → r.2.1 k = r0.2.1 k) ∧ ∀ d, d < m → r.2.1 12 d = nI (hasT n g d) ∧ r.2.1 13 d = nI (wT n g false d) ∧ r.2.1 14 d = nI (wT n g true d) ∧ r.2.1 15 d = nI (2 ^ nfree n d)
def CubS (r0 r : RS) (n : Nat) (g : Nat → Nat) (c : Nat) (x y : Nat) : Prop := CubR r0 r n g c ∧ r.2.1 12 c = nI (hasT n g c) ∧ r.2.1 15 c = nI (2 ^ nfree n c) ∧ r.2.1 13 c = nI x ∧ r.2.1 14 c = nI y
theorem CubR.up {r0 r : RS} {n c k : Nat} {g : Nat → Nat} {x : Int32} (h : CubR r0 r n g c) (hk : k = 12 ∨ k = 13 ∨ k = 14 ∨ k = 15) : CubR r0 (rA r k c x) n g c := by
  refine ⟨h.1, h.2.1, fun j hj => by rw [rA_n (by omega)]; exact h.2.2.1 j hj, fun d hd => ?_⟩
  have key : ∀ j, (rA r k c x).2.1 j d = r.2.1 j d := fun j => by
    by_cases e : j = k
    · rw [e, rA_e, pk_un (by omega)]
    · rw [rA_n e]
  rw [key, key, key, key]
  exact h.2.2.2 d hd
theorem CubR.pw {r0 r : RS} {n c : Nat} {g : Nat → Nat} (h : CubR r0 r n g c) (hp : PwR r0) : PwR r := fun k hk => by rw [h.2.2.1 11 (by omega)]; exact hp k hk
theorem deeper_n {r0 r : RS} {n c i : Nat} {g : Nat → Nat} (hp : PwR r0) (h : CubR r0 r n g c) (hn : n ≤ 8) (hc : c < 6561) (hi : i < n) (h2 : dg c i = 2) : fX10_deeper r (nI c) (nI i) = some (nI (hw n g false c i)) := by
  have hge := dg_ge h2
  have h3 := p3 i
  have h4 := p3le (show i ≤ 8 by omega)
  have a1 := h.2.2.2 (c - 3 ^ i) (by omega)
  have a2 := h.2.2.2 (c - 2 * 3 ^ i) (by omega)
  have b1 := wT_b hn g false (c - 3 ^ i)
  have b2 := wT_b hn g false (c - 2 * 3 ^ i)
  have e : hw n g false c i = max (wT n g false (c - 2 * 3 ^ i)) (wT n g false (c - 3 ^ i)) := rfl
  unfold fX10_deeper
  by_cases q : wT n g false (c - 2 * 3 ^ i) ≤ wT n g false (c - 3 ^ i)
  · rw [e, Nat.max_eq_right q]
    simp (disch := omega) only [h.pw hp i (by omega), pk_sub, a1.2.1, a2.2.1, Option.bind_some, aI_n, aL_n, aQ_n, sA_n, sL_n, csA_n, i_0, i_1, i_2, i_3, i_4, i_5, i_6, i_7, i_8, i_9, i_10, i_11, i_12, i_13, i_16, i_20, i_21, i_22, i_31, i_99, i_100, i_256, i_1000, nI_eq, nI_leI, nI_ltI, nI_add, pk_mul, ↓reduceIte, nt_le, nf_le, nt_lt, nf_lt, nt_eq, nf_eq, meet_N', meet_P', meet_S', meet_Z', meet_B', meet_O', n_1, n_2, n_3, n_4, n_5, n_10, n_11]
  · rw [e, Nat.max_eq_left (by omega)]
    simp (disch := omega) only [h.pw hp i (by omega), pk_sub, a1.2.1, a2.2.1, Option.bind_some, aI_n, aL_n, aQ_n, sA_n, sL_n, csA_n, i_0, i_1, i_2, i_3, i_4, i_5, i_6, i_7, i_8, i_9, i_10, i_11, i_12, i_13, i_16, i_20, i_21, i_22, i_31, i_99, i_100, i_256, i_1000, nI_eq, nI_leI, nI_ltI, nI_add, pk_mul, ↓reduceIte, nt_le, nf_le, nt_lt, nf_lt, nt_eq, nf_eq, meet_N', meet_P', meet_S', meet_Z', meet_B', meet_O', n_1, n_2, n_3, n_4, n_5, n_10, n_11]
theorem sums_n {r0 r : RS} {n c i : Nat} {g : Nat → Nat} (hp : PwR r0) (h : CubR r0 r n g c) (hn : n ≤ 8) (hc : c < 6561) (hi : i < n) (h2 : dg c i = 2) (h15 : r.2.1 15 c = nI (2 ^ nfree n c)) : fX10_sums r (nI c) (nI i) = some (nI (2 ^ nfree n c + hw n g true c i)) := by
  have hge := dg_ge h2
  have h3 := p3 i
  have h4 := p3le (show i ≤ 8 by omega)
  have a1 := h.2.2.2 (c - 3 ^ i) (by omega)
  have a2 := h.2.2.2 (c - 2 * 3 ^ i) (by omega)
  unfold fX10_sums
  simp (disch := omega) only [h.pw hp i (by omega), pk_sub, a1.2.2.1, a2.2.2.1, h15, Option.bind_some, aI_n, aL_n, aQ_n, sA_n, sL_n, csA_n, i_0, i_1, i_2, i_3, i_4, i_5, i_6, i_7, i_8, i_9, i_10, i_11, i_12, i_13, i_16, i_20, i_21, i_22, i_31, i_99, i_100, i_256, i_1000, nI_eq, nI_leI, nI_ltI, nI_add, pk_mul, ↓reduceIte, nt_le, nf_le, nt_lt, nf_lt, nt_eq, nf_eq, meet_N', meet_P', meet_S', meet_Z', meet_B', meet_O', n_1, n_2, n_3, n_4, n_5, n_10, n_11]
  rw [Nat.add_assoc]
  rfl
theorem tell227 {r0 r : RS} {n c : Nat} {g : Nat → Nat} {l1 : Int32} (hp : PwR r0) (hn : n ≤ 8) (hc : c < 6561) (h : CubS r0 r n g c 100 1000000) : ∃ e, lpN (fun u => fX10_tellCubes_L227 u.2 l1 (nI n) (nI c) u.1) bigN (nI 0, r) = some e ∧ CubS r0 e n g c (min 100 (bestF n (hw n g false c) c + 1)) (min 1000000 (bestF n (hw n g true c) c + 2 ^ nfree n c)) := by
  have hf := p2le (Nat.le_trans (nfree_le n c) hn)
  refine lp_count (fun i s => s.1 = nI i ∧ CubS r0 s.2 n g c (min 100 (bestF i (hw n g false c) c + 1)) (min 1000000 (bestF i (hw n g true c) c + 2 ^ nfree n c))) n _ (bigN_gt (by omega)) (fun i s hi hs => ?_) (fun s hs => ?_) ⟨rfl, ?_⟩
  · obtain ⟨l, rr⟩ := s
    obtain ⟨rfl, hs⟩ := hs
    simp only at hs
    obtain ⟨s1, s2, s3, s4, s5⟩ := hs
    have q1 := bestF_m i c (hw n g false c)
    have q2 := bestF_m i c (hw n g true c)
    by_cases h2 : dg c i = 2
    · have b1 := wT_b hn g false (c - 3 ^ i)
      have b2 := wT_b hn g false (c - 2 * 3 ^ i)
      have b3 := wT_b hn g true (c - 3 ^ i)
      have b4 := wT_b hn g true (c - 2 * 3 ^ i)
      have e1 : hw n g false c i = max (wT n g false (c - 2 * 3 ^ i)) (wT n g false (c - 3 ^ i)) := rfl
      have e2 : hw n g true c i = wT n g true (c - 2 * 3 ^ i) + wT n g true (c - 3 ^ i) := rfl
      have l1' : hw n g false c i ≤ 2048 := by rw [e1]; omega
      have l2' : hw n g true c i ≤ 4096 := by rw [e2]; omega
      have f1 : bestF (i + 1) (hw n g false c) c = min (bestF i (hw n g false c) c) (hw n g false c i) := bestF_2 h2
      have f2 : bestF (i + 1) (hw n g true c) c = min (bestF i (hw n g true c) c) (hw n g true c i) := bestF_2 h2
      have g1 : min 100 (bestF (i + 1) (hw n g false c) c + 1) = min (min 100 (bestF i (hw n g false c) c + 1)) (hw n g false c i + 1) := by rw [f1]; omega
      have g2 : min 1000000 (bestF (i + 1) (hw n g true c) c + 2 ^ nfree n c) = min (min 1000000 (bestF i (hw n g true c) c + 2 ^ nfree n c)) (2 ^ nfree n c + hw n g true c i) := by rw [f2]; omega
      clear f1 f2 e1 e2
      generalize hX : min 100 (bestF i (hw n g false c) c + 1) = X at *
      generalize hY : min 1000000 (bestF i (hw n g true c) c + 2 ^ nfree n c) = Y at *
      have x1 : X ≤ 100 := by omega
      have y1 : Y ≤ 1000000 := by omega
      have t1 := s1.up (k := 13) (x := nI (min X (hw n g false c i + 1))) (by omega)
      refine ⟨(nI (i + 1), rA (rA rr 13 c (nI (min X (hw n g false c i + 1)))) 14 c (nI (min Y (2 ^ nfree n c + hw n g true c i)))), ?_, rfl, ?_⟩
      · have w15 : (rA rr 13 c (nI (min X (hw n g false c i + 1)))).2.1 15 c = nI (2 ^ nfree n c) := by rw [rA_n (by omega)]; exact s3
        have w14 : (rA rr 13 c (nI (min X (hw n g false c i + 1)))).2.1 14 c = nI Y := by rw [rA_n (by omega)]; exact s5
        have J : fX10_tellCubes_L227_J285 rr l1 (nI n) (nI c) (nI i) (nI (min X (hw n g false c i + 1))) (nI c) = some (.inl (nI (i + 1), rA (rA rr 13 c (nI (min X (hw n g false c i + 1)))) 14 c (nI (min Y (2 ^ nfree n c + hw n g true c i))))) := by
          unfold fX10_tellCubes_L227_J285 fX10_tellCubes_L227_J323 fX10_tellCubes_L227_J324
          by_cases c2 : Y ≤ 2 ^ nfree n c + hw n g true c i
          · rw [Nat.min_eq_left c2]
            simp (disch := omega) only [sums_n hp t1 hn hc hi h2 w15, w14, Option.bind_some, aI_n, aL_n, aQ_n, sA_n, sL_n, csA_n, i_0, i_1, i_2, i_3, i_4, i_5, i_6, i_7, i_8, i_9, i_10, i_11, i_12, i_13, i_16, i_20, i_21, i_22, i_31, i_99, i_100, i_256, i_1000, nI_eq, nI_leI, nI_ltI, nI_add, pk_mul, ↓reduceIte, nt_le, nf_le, nt_lt, nf_lt, nt_eq, nf_eq, meet_N', meet_P', meet_S', meet_Z', meet_B', meet_O', n_1, n_2, n_3, n_4, n_5, n_10, n_11]
          · rw [Nat.min_eq_right (Nat.le_of_not_le c2)]
            simp (disch := omega) only [sums_n hp t1 hn hc hi h2 w15, w14, Option.bind_some, aI_n, aL_n, aQ_n, sA_n, sL_n, csA_n, i_0, i_1, i_2, i_3, i_4, i_5, i_6, i_7, i_8, i_9, i_10, i_11, i_12, i_13, i_16, i_20, i_21, i_22, i_31, i_99, i_100, i_256, i_1000, nI_eq, nI_leI, nI_ltI, nI_add, pk_mul, ↓reduceIte, nt_le, nf_le, nt_lt, nf_lt, nt_eq, nf_eq, meet_N', meet_P', meet_S', meet_Z', meet_B', meet_O', n_1, n_2, n_3, n_4, n_5, n_10, n_11]
        unfold fX10_tellCubes_L227
        by_cases c1 : X ≤ hw n g false c i + 1
        · rw [Nat.min_eq_left c1] at J ⊢
          simp (disch := omega) only [digit_n (s1.pw hp) hc (show i ≤ 8 by omega), h2, deeper_n hp s1 hn hc hi h2, s4, J, Option.bind_some, aI_n, aL_n, aQ_n, sA_n, sL_n, csA_n, i_0, i_1, i_2, i_3, i_4, i_5, i_6, i_7, i_8, i_9, i_10, i_11, i_12, i_13, i_16, i_20, i_21, i_22, i_31, i_99, i_100, i_256, i_1000, nI_eq, nI_leI, nI_ltI, nI_add, pk_mul, ↓reduceIte, nt_le, nf_le, nt_lt, nf_lt, nt_eq, nf_eq, meet_N', meet_P', meet_S', meet_Z', meet_B', meet_O', n_1, n_2, n_3, n_4, n_5, n_10, n_11]
        · rw [Nat.min_eq_right (Nat.le_of_not_le c1)] at J ⊢
          simp (disch := omega) only [digit_n (s1.pw hp) hc (show i ≤ 8 by omega), h2, deeper_n hp s1 hn hc hi h2, s4, J, Option.bind_some, aI_n, aL_n, aQ_n, sA_n, sL_n, csA_n, i_0, i_1, i_2, i_3, i_4, i_5, i_6, i_7, i_8, i_9, i_10, i_11, i_12, i_13, i_16, i_20, i_21, i_22, i_31, i_99, i_100, i_256, i_1000, nI_eq, nI_leI, nI_ltI, nI_add, pk_mul, ↓reduceIte, nt_le, nf_le, nt_lt, nf_lt, nt_eq, nf_eq, meet_N', meet_P', meet_S', meet_Z', meet_B', meet_O', n_1, n_2, n_3, n_4, n_5, n_10, n_11]
      · rw [g1, g2]
        refine ⟨t1.up (by omega), ?_, ?_, ?_, ?_⟩
        · rw [rA_n (by omega), rA_n (by omega)]; exact s2
        · rw [rA_n (by omega), rA_n (by omega)]; exact s3
        · rw [rA_n (by omega), rA_e, pk_us]
        · rw [rA_e, pk_us]
    · have h1 := dg_lt c i
      refine ⟨(nI (i + 1), rr), ?_, rfl, ?_⟩
      · unfold fX10_tellCubes_L227 fX10_tellCubes_L227_J324
        simp (disch := omega) only [digit_n (s1.pw hp) hc (show i ≤ 8 by omega), Option.bind_some, aI_n, aL_n, aQ_n, sA_n, sL_n, csA_n, i_0, i_1, i_2, i_3, i_4, i_5, i_6, i_7, i_8, i_9, i_10, i_11, i_12, i_13, i_16, i_20, i_21, i_22, i_31, i_99, i_100, i_256, i_1000, nI_eq, nI_leI, nI_ltI, nI_add, pk_mul, ↓reduceIte, nt_le, nf_le, nt_lt, nf_lt, nt_eq, nf_eq, meet_N', meet_P', meet_S', meet_Z', meet_B', meet_O', n_1, n_2, n_3, n_4, n_5, n_10, n_11]
      · have f1 : ∀ w, bestF (i + 1) w c = bestF i w c := fun w => bestF_n h2
        rw [f1, f1]
        exact ⟨s1, s2, s3, s4, s5⟩
  · obtain ⟨l, rr⟩ := s
    obtain ⟨rfl, hs⟩ := hs
    exact ⟨rr, by unfold fX10_tellCubes_L227; simp (disch := omega) only [Option.bind_some, aI_n, aL_n, aQ_n, sA_n, sL_n, csA_n, i_0, i_1, i_2, i_3, i_4, i_5, i_6, i_7, i_8, i_9, i_10, i_11, i_12, i_13, i_16, i_20, i_21, i_22, i_31, i_99, i_100, i_256, i_1000, nI_eq, nI_leI, nI_ltI, nI_add, pk_mul, ↓reduceIte, nt_le, nf_le, nt_lt, nf_lt, nt_eq, nf_eq, meet_N', meet_P', meet_S', meet_Z', meet_B', meet_O', n_1, n_2, n_3, n_4, n_5, n_10, n_11], hs⟩
  · show CubS r0 r n g c (min 100 (1000000 + 1)) (min 1000000 (1000000 + 2 ^ nfree n c))
    rw [show min 100 (1000000 + 1) = 100 from rfl, Nat.min_eq_left (Nat.le_add_right _ _)]
    exact h
theorem tell186 {r0 r : RS} {n c : Nat} {g : Nat → Nat} {l1 : Int32} (hp : PwR r0) (hn : n ≤ 8) (hc : c < 6561) (h : CubR r0 r n g c) (h12 : r.2.1 12 c = nI (hasT n g c)) (h15 : r.2.1 15 c = nI (2 ^ nfree n c)) : ∃ e, fX10_tellCubes_L9_J186 r l1 (nI n) (nI c) = some (.inl (nI (c + 1), e)) ∧ CubR r0 e n g (c + 1) := by
  have l3 := hasT_le n g c
  have fin : ∀ e, CubS r0 e n g c (wT n g false c) (wT n g true c) → CubR r0 e n g (c + 1) := by
    intro e he
    refine ⟨he.1.1, he.1.2.1, he.1.2.2.1, fun d hd => ?_⟩
    by_cases hdc : d = c
    · subst hdc; exact ⟨he.2.1, he.2.2.2.1, he.2.2.2.2, he.2.2.1⟩
    · exact he.1.2.2.2 d (by omega)
  unfold fX10_tellCubes_L9_J186 fX10_tellCubes_L9_J330 fX10_isSettled
  by_cases h3 : hasT n g c = 3
  · have st : CubS r0 (rA (rA (rA (rA r 13 c (nI 0)) 14 c (nI 0)) 13 c (nI 100)) 14 c (nI 1000000)) n g c 100 1000000 := by
      refine ⟨(((h.up (by omega)).up (by omega)).up (by omega)).up (by omega), ?_, ?_, ?_, ?_⟩
      · rw [rA_n (by omega), rA_n (by omega), rA_n (by omega), rA_n (by omega)]; exact h12
      · rw [rA_n (by omega), rA_n (by omega), rA_n (by omega), rA_n (by omega)]; exact h15
      · rw [rA_n (by omega), rA_e, pk_us]
      · rw [rA_e, pk_us]
    obtain ⟨e, e1, e2⟩ := tell227 (l1 := l1) hp hn hc st
    have wd := wT_d n g c
    have ws := wT_s n g c
    have nf := nfree_le n c
    have x1 := wT_eq n g false c
    have x2 := wT_eq n g true c
    have b2 := wT_b hn g true c
    rw [if_pos h3] at x1 x2
    have o1 : ownW false n c = 1 := rfl
    have o2 : ownW true n c = 2 ^ nfree n c := rfl
    rw [Nat.min_eq_right (by omega), Nat.min_eq_right (by omega), ← o1, ← o2, ← x1, ← x2] at e2
    refine ⟨e, ?_, fin e e2⟩
    simp (disch := omega) only [rA_n, h12, h3, show (1000000 : Int32) = nI 1000000 by decide, Option.bind_some, aI_n, aL_n, aQ_n, sA_n, sL_n, csA_n, i_0, i_1, i_2, i_3, i_4, i_5, i_6, i_7, i_8, i_9, i_10, i_11, i_12, i_13, i_16, i_20, i_21, i_22, i_31, i_99, i_100, i_256, i_1000, nI_eq, nI_leI, nI_ltI, nI_add, pk_mul, ↓reduceIte, nt_le, nf_le, nt_lt, nf_lt, nt_eq, nf_eq, meet_N', meet_P', meet_S', meet_Z', meet_B', meet_O', n_1, n_2, n_3, n_4, n_5, n_10, n_11]
    rw [e1]
    rfl
  · have x1 := wT_eq n g false c
    have x2 := wT_eq n g true c
    rw [if_neg h3] at x1 x2
    refine ⟨rA (rA r 13 c (nI 0)) 14 c (nI 0), ?_, fin _ ⟨(h.up (by omega)).up (by omega), ?_, ?_, ?_, ?_⟩⟩
    · simp (disch := omega) only [rA_n, h12, Option.bind_some, aI_n, aL_n, aQ_n, sA_n, sL_n, csA_n, i_0, i_1, i_2, i_3, i_4, i_5, i_6, i_7, i_8, i_9, i_10, i_11, i_12, i_13, i_16, i_20, i_21, i_22, i_31, i_99, i_100, i_256, i_1000, nI_eq, nI_leI, nI_ltI, nI_add, pk_mul, ↓reduceIte, nt_le, nf_le, nt_lt, nf_lt, nt_eq, nf_eq, meet_N', meet_P', meet_S', meet_Z', meet_B', meet_O', n_1, n_2, n_3, n_4, n_5, n_10, n_11]
    · rw [rA_n (by omega), rA_n (by omega)]; exact h12
    · rw [rA_n (by omega), rA_n (by omega)]; exact h15
    · rw [rA_n (by omega), rA_e, pk_us, x1]
    · rw [rA_e, pk_us, x2]
theorem tell9 {r0 r : RS} {p n c : Nat} {kd wt : Int32} {g : Nat → Nat} (hp : PwR r0) (hpl : p < 16) (t2 : TkR r0 p n kd wt g) (hg : ∀ x, g x ≤ 2) (hn : n ≤ 8) (hc : c < 3 ^ n) (h : CubR r0 r n g c) : ∃ e, fX10_tellCubes_L9 r (nI p) (nI n) (nI c) = some (.inl (nI (c + 1), e)) ∧ CubR r0 e n g (c + 1) := by
  have h6 := p3le hn
  have hc' : c < 6561 := by omega
  have hpw := h.pw hp
  have t2' : TkR r p n kd wt g := RSame.tk (r := r0) ⟨by rw [h.2.2.1 0 (by omega)], by rw [h.2.2.1 1 (by omega)], by rw [h.2.2.1 2 (by omega)], fun x _ => by rw [h.2.2.1 3 (by omega)]⟩ hn t2
  have key : ∀ rr, (fX10_tellCubes_L9 r (nI p) (nI n) (nI c) = fX10_tellCubes_L9_J186 rr (nI p) (nI n) (nI c)) → CubR r0 rr n g c → rr.2.1 12 c = nI (hasT n g c) → rr.2.1 15 c = nI (2 ^ nfree n c) → ∃ e, fX10_tellCubes_L9 r (nI p) (nI n) (nI c) = some (.inl (nI (c + 1), e)) ∧ CubR r0 e n g (c + 1) := by
    intro rr e1 e2 e3 e4
    rw [e1]
    exact tell186 hp hn hc' e2 e3 e4
  have h28 := tell28 (r := r) (n := n) (c := c) (l1 := nI p) hpw hc' hn
  cases e : top n c with
  | none =>
    rw [e] at h28
    have hi := inpR_lt n c
    have hs := say0_n hpl t2' hn hi
    rw [inpR_none e] at h28 hs hi
    have hgl := hg (inp n c)
    refine key (rA (rA r 12 c (nI (hasT n g c))) 15 c (nI 1)) ?_ ((h.up (by omega)).up (by omega)) ?_ ?_
    · unfold fX10_tellCubes_L9 fX10_tellCubes_L9_J116
      rw [hasT_none e]
      simp (disch := omega) only [hpw n hn, h28, tI, m1ge, hs, Option.bind_some, aI_n, aL_n, aQ_n, sA_n, sL_n, csA_n, i_0, i_1, i_2, i_3, i_4, i_5, i_6, i_7, i_8, i_9, i_10, i_11, i_12, i_13, i_16, i_20, i_21, i_22, i_31, i_99, i_100, i_256, i_1000, nI_eq, nI_leI, nI_ltI, nI_add, pk_mul, ↓reduceIte, nt_le, nf_le, nt_lt, nf_lt, nt_eq, nf_eq, meet_N', meet_P', meet_S', meet_Z', meet_B', meet_O', n_1, n_2, n_3, n_4, n_5, n_10, n_11]
      rcases (show g (inp n c) = 0 ∨ g (inp n c) = 1 ∨ g (inp n c) = 2 by omega) with w | w | w
      · rw [w]
        simp (disch := omega) only [shl1' 0 (by omega), Option.bind_some, aI_n, aL_n, aQ_n, sA_n, sL_n, csA_n, i_0, i_1, i_2, i_3, i_4, i_5, i_6, i_7, i_8, i_9, i_10, i_11, i_12, i_13, i_16, i_20, i_21, i_22, i_31, i_99, i_100, i_256, i_1000, nI_eq, nI_leI, nI_ltI, nI_add, pk_mul, ↓reduceIte, nt_le, nf_le, nt_lt, nf_lt, nt_eq, nf_eq, meet_N', meet_P', meet_S', meet_Z', meet_B', meet_O', n_1, n_2, n_3, n_4, n_5, n_10, n_11]
        rfl
      · rw [w]
        simp (disch := omega) only [shl1' 1 (by omega), Option.bind_some, aI_n, aL_n, aQ_n, sA_n, sL_n, csA_n, i_0, i_1, i_2, i_3, i_4, i_5, i_6, i_7, i_8, i_9, i_10, i_11, i_12, i_13, i_16, i_20, i_21, i_22, i_31, i_99, i_100, i_256, i_1000, nI_eq, nI_leI, nI_ltI, nI_add, pk_mul, ↓reduceIte, nt_le, nf_le, nt_lt, nf_lt, nt_eq, nf_eq, meet_N', meet_P', meet_S', meet_Z', meet_B', meet_O', n_1, n_2, n_3, n_4, n_5, n_10, n_11]
        rfl
      · rw [w]
        simp (disch := omega) only [Option.bind_some, aI_n, aL_n, aQ_n, sA_n, sL_n, csA_n, i_0, i_1, i_2, i_3, i_4, i_5, i_6, i_7, i_8, i_9, i_10, i_11, i_12, i_13, i_16, i_20, i_21, i_22, i_31, i_99, i_100, i_256, i_1000, nI_eq, nI_leI, nI_ltI, nI_add, pk_mul, ↓reduceIte, nt_le, nf_le, nt_lt, nf_lt, nt_eq, nf_eq, meet_N', meet_P', meet_S', meet_Z', meet_B', meet_O', n_1, n_2, n_3, n_4, n_5, n_10, n_11]
        rfl
    · rw [rA_n (by omega), rA_e, pk_us]
    · rw [rA_e, pk_us, nfree_none e]
  | some i =>
    rw [e] at h28
    obtain ⟨hi, h2, -⟩ := top_some e
    have hge := dg_ge h2
    have h3 := p3 i
    have h4 := p3le (show i ≤ 8 by omega)
    have a1 := h.2.2.2 (c - 3 ^ i) (by omega)
    have a2 := h.2.2.2 (c - 2 * 3 ^ i) (by omega)
    have nf := nfree_sub (a := 1) hi h2 (by omega) (by omega)
    rw [Nat.one_mul] at nf
    refine key (rA (rA r 12 c (nI (hasT n g c))) 15 c (nI (2 ^ nfree n c))) ?_ ((h.up (by omega)).up (by omega)) ?_ ?_
    · unfold fX10_tellCubes_L9
      rw [hasT_some e, ← nf, Nat.pow_succ, Nat.mul_comm (2 ^ nfree n (c - 3 ^ i)) 2]
      simp (disch := omega) only [hpw n hn, h28, tI, hpw i (by omega), pk_sub, a1.1, a2.1, nI_or, rA_n, a1.2.2.2, Option.bind_some, aI_n, aL_n, aQ_n, sA_n, sL_n, csA_n, i_0, i_1, i_2, i_3, i_4, i_5, i_6, i_7, i_8, i_9, i_10, i_11, i_12, i_13, i_16, i_20, i_21, i_22, i_31, i_99, i_100, i_256, i_1000, nI_eq, nI_leI, nI_ltI, nI_add, pk_mul, ↓reduceIte, nt_le, nf_le, nt_lt, nf_lt, nt_eq, nf_eq, meet_N', meet_P', meet_S', meet_Z', meet_B', meet_O', n_1, n_2, n_3, n_4, n_5, n_10, n_11]
    · rw [rA_n (by omega), rA_e, pk_us]
    · rw [rA_e, pk_us]
theorem tell_n {r : RS} {p n : Nat} {kd wt : Int32} {g : Nat → Nat} (hp : PwR r) (hpl : p < 16) (t2 : TkR r p n kd wt g) (hg : ∀ x, g x ≤ 2) (hn : n ≤ 8) : ∃ r', fX10_tellCubes r (nI p) = some r' ∧ CubR r r' n g (3 ^ n) := by
  have h6 := p3le hn
  obtain ⟨e, e1, e2⟩ := lp_count (body := fun u => fX10_tellCubes_L9 u.2 (nI p) (nI n) u.1) (fun c s => s.1 = nI c ∧ CubR r s.2 n g c) (3 ^ n) (fun e => CubR r e n g (3 ^ n)) (bigN_gt (by omega)) (fun c s hc hs => by
    obtain ⟨l, rr⟩ := s
    obtain ⟨rfl, hs⟩ := hs
    obtain ⟨e, e1, e2⟩ := tell9 hp hpl t2 hg hn hc hs
    exact ⟨_, e1, rfl, e2⟩) (fun s hs => by
    obtain ⟨l, rr⟩ := s
    obtain ⟨rfl, hs⟩ := hs
    have hs' : CubR r rr n g (3 ^ n) := hs
    refine ⟨rr, ?_, hs'⟩
    unfold fX10_tellCubes_L9
    simp (disch := omega) only [hs'.pw hp n hn, Option.bind_some, aI_n, aL_n, aQ_n, sA_n, sL_n, csA_n, i_0, i_1, i_2, i_3, i_4, i_5, i_6, i_7, i_8, i_9, i_10, i_11, i_12, i_13, i_16, i_20, i_21, i_22, i_31, i_99, i_100, i_256, i_1000, nI_eq, nI_leI, nI_ltI, nI_add, pk_mul, ↓reduceIte, nt_le, nf_le, nt_lt, nf_lt, nt_eq, nf_eq, meet_N', meet_P', meet_S', meet_Z', meet_B', meet_O', n_1, n_2, n_3, n_4, n_5, n_10, n_11]) (s := (nI 0, r)) ⟨rfl, rfl, rfl, fun _ _ => rfl, fun d hd => by omega⟩
  refine ⟨e, ?_, e2⟩
  unfold fX10_tellCubes
  simp (disch := omega) only [t2.1, Option.bind_some, aI_n, aL_n, aQ_n, sA_n, sL_n, csA_n, i_0, i_1, i_2, i_3, i_4, i_5, i_6, i_7, i_8, i_9, i_10, i_11, i_12, i_13, i_16, i_20, i_21, i_22, i_31, i_99, i_100, i_256, i_1000, nI_eq, nI_leI, nI_ltI, nI_add, pk_mul, ↓reduceIte, nt_le, nf_le, nt_lt, nf_lt, nt_eq, nf_eq, meet_N', meet_P', meet_S', meet_Z', meet_B', meet_O', n_1, n_2, n_3, n_4, n_5, n_10, n_11]
  exact (congrArg (fun u => u.bind fun e33 => some e33) e1).trans rfl
theorem whole_n {r : RS} {p n : Nat} (hp : PwR r) (hpl : p < 16) (h0 : r.2.1 0 p = nI n) (hn : n ≤ 8) : fX10_whole r (nI p) = some (nI (3 ^ n - 1)) := by
  have h6 := p3le hn
  have := p3 n
  unfold fX10_whole
  simp (disch := omega) only [h0, hp n hn, pk_sub, Option.bind_some, aI_n, aL_n, aQ_n, sA_n, sL_n, csA_n, i_0, i_1, i_2, i_3, i_4, i_5, i_6, i_7, i_8, i_9, i_10, i_11, i_12, i_13, i_16, i_20, i_21, i_22, i_31, i_99, i_100, i_256, i_1000, nI_eq, nI_leI, nI_ltI, nI_add, pk_mul, ↓reduceIte, nt_le, nf_le, nt_lt, nf_lt, nt_eq, nf_eq, meet_N', meet_P', meet_S', meet_Z', meet_B', meet_O', n_1, n_2, n_3, n_4, n_5, n_10, n_11]
theorem CubR.sim {o : Nat} {z : CS} {r r' : RS} {n m : Nat} {g : Nat → Nat} (h : Sim o z r) (c : CubR r r' n g m) : Sim o z r' := Sim_r h (fun k _ => by rw [c.1]) (fun k hk => c.2.2.1 k (by omega)) (by rw [c.2.1])
