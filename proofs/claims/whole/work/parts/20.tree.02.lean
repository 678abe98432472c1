/-- both sides have grown a subtree of S nodes -/
def TP (o : Nat) (z0 : CS) (r0 : RS) (pl : Nat) (bs : Bool) (f c d N sp p w : Nat) (z : CS) (r : RS) (S : Nat) (z' : CS) (r' : RS) : Prop := 1 ≤ S ∧ S + 1 ≤ 2 ^ (f + 1) ∧ (∀ fu, f < fu → fX5_grow_8 fu o z (nI c) (nI d) = some z') ∧ (∀ m, lpN (fun u => fX10_tree_L72 u.2 (nI pl) (bsI bs) u.1) (m + S) (nI sp, r) = lpN (fun u => fX10_tree_L72 u.2 (nI pl) (bsI bs) u.1) m (nI (sp - 1), r')) ∧ GTz z0 z' (N + S) ∧ GTr r0 r' (N + S) ∧ (∀ k j, ¬ (N ≤ j ∧ j < N + S) → z'.2.1 k j = z.2.1 k j) ∧ (∀ k j, k < 20 → ¬ (N ≤ j ∧ j < N + S) → r'.2.1 k j = (lk r p w (nI N)).2.1 k j) ∧ (∀ k j, 20 ≤ k → j + 1 < sp → r'.2.1 k j = r.2.1 k j) ∧ z'.2.1 5 N = nI (N + S) ∧ z'.2.1 4 N = nI d ∧ ∀ k, N ≤ k → k < N + S → NdR (N + S) (z'.2.1 3) (z'.2.1 4) (z'.2.1 5) (r'.2.1 16) (r'.2.1 17) (r'.2.1 18) (r'.2.1 19) k
theorem cAr_j {z : CS} {k i m j : Nat} {x : Int32} (h : j ≠ i) : (cAr z k i x).2.1 m j = z.2.1 m j := by
  by_cases e : m = k
  · rw [e, cAr_e, pk_un h]
  · rw [cAr_n e]
theorem rA_j {r : RS} {k i m j : Nat} {x : Int32} (h : j ≠ i) : (rA r k i x).2.1 m j = r.2.1 m j := by
  by_cases e : m = k
  · rw [e, rA_e, pk_un h]
  · rw [rA_n e]
theorem cAr_s {z : CS} {k i : Nat} {x : Int32} : (cAr z k i x).2.1 k i = x := by rw [cAr_e, pk_us]
theorem rA_s {r : RS} {k i : Nat} {x : Int32} : (rA r k i x).2.1 k i = x := by rw [rA_e, pk_us]
def sv (h : Nat) : Nat := if h = 1 then 0 else if h = 2 then 1 else 2
theorem lkI {r : RS} {p w N k j : Nat} {v x : Int32} : (lk (rI r 5 x) p w v).2.1 k j = (lk r p w v).2.1 k j := by
  unfold lk
  split
  · rfl
  · split <;> rfl
theorem tree_s {o : Nat} {z0 : CS} {r0 : RS} {q n pl : Nat} {g : Nat → Nat} {bs : Bool} (hz : WZ z0 q n g bs) (hr : RZ r0 pl n g) (hn : n ≤ 8) {f c d N sp p w : Nat} {z : CS} {r : RS} (hd : d + f = n) (hc : c < 3 ^ n) (hN : N + 2 ^ (f + 1) ≤ 512) (h1 : 1 ≤ sp) (hsp : sp + f ≤ 30) (hw : w ≤ 2) (hp : w < 2 → p < N) (gz : GTz z0 z N) (gr : GTr r0 r N) (h20 : r.2.1 20 (sp - 1) = nI c) (h21 : r.2.1 21 (sp - 1) = nI d) (h22 : w = 2 → r.2.1 22 (sp - 1) = -nI 1) (h23 : w < 2 → r.2.1 22 (sp - 1) = nI p ∧ r.2.1 23 (sp - 1) = nI w) (h3 : ¬ hasT n g c = 3) : ∃ S z' r', TP o z0 r0 pl bs f c d N sp p w z r S z' r' := by
  have h6 := p3le hn
  have hl := hasT_le n g c
  have hpf : 2 ≤ 2 ^ (f + 1) := by rw [Nat.pow_succ]; have := p2pos (n := f); omega
  have gz1 := gz.nx.up (k := 4) (i := N) (v := nI d) (by omega) (by omega)
  have gz2 := gz1.up (k := 3) (i := N) (v := nI (20 + sv (hasT n g c))) (by omega) (by omega)
  have gz3 := gz2.up (k := 5) (i := N) (v := nI (N + 1)) (by omega) (by omega)
  have gr1 := (gr.nx.lk (p := p) (w := w) (v := nI N)).up (k := 17) (i := N) (v := nI d) (by omega) (by omega)
  have gr2 := (gr1.up (k := 18) (i := N) (v := -nI 1) (by omega) (by omega)).up (k := 19) (i := N) (v := -nI 1) (by omega) (by omega)
  have gr3 := gr2.up (k := 16) (i := N) (v := nI (20 + sv (hasT n g c))) (by omega) (by omega)
  have z1 := ((gz1.wz hz).2.2.2 c hc).1
  have r12 := ((gr2.rz hr).2.2.2.2.2 c hc).1
  refine ⟨1, _, _, by omega, by omega, fun fu hfu => ?_, fun m => ?_, gz3, gr3, fun k j hj => ?_, fun k j hk hj => ?_, fun k j hk hj => ?_, ?_, ?_, fun k hk1 hk2 => ?_⟩
  · obtain ⟨fu', rfl⟩ : ∃ m, fu = m + 1 := ⟨fu - 1, by omega⟩
    have x6 : (cAr (cAr (cI z 6 (nI (N + 1))) 4 N (nI d)) 3 N (nI (20 + sv (hasT n g c)))).1 6 = nI (N + 1) := gz2.1
    show fX5_grow_8_B o (fX5_grow_8 fu' o) z (nI c) (nI d) = _
    unfold fX5_grow_8_B fX5_grow_8_B_J119 fX1_isSettled_5 fX1_saysAll_5
    rcases (show hasT n g c = 0 ∨ hasT n g c = 1 ∨ hasT n g c = 2 by omega) with e | e | e
    · rw [e] at z1 x6 ⊢
      simp (disch := omega) only [gz.1, z1, show sv 0 = 2 from rfl, show (20 : Nat) + 2 = 22 from rfl, Option.bind_some, aI_n, aL_n, aQ_n, sA_n, sL_n, csA_n, i_0, i_1, i_2, i_3, i_4, i_5, i_6, i_7, i_8, i_9, i_10, i_11, i_12, i_13, i_16, i_20, i_21, i_22, i_31, i_99, i_100, i_256, i_1000, nI_eq, nI_leI, nI_ltI, nI_add, pk_mul, ↓reduceIte, nt_le, nf_le, nt_lt, nf_lt, nt_eq, nf_eq, meet_N', meet_P', meet_S', meet_Z', meet_B', meet_O', n_1, n_2, n_3, n_4, n_5, n_10, n_11]
      rw [show sv 0 = 2 from rfl, show (20 : Nat) + 2 = 22 from rfl] at x6
      simp (disch := omega) only [x6, Option.bind_some, aI_n, aL_n, aQ_n, sA_n, sL_n, csA_n, i_0, i_1, i_2, i_3, i_4, i_5, i_6, i_7, i_8, i_9, i_10, i_11, i_12, i_13, i_16, i_20, i_21, i_22, i_31, i_99, i_100, i_256, i_1000, nI_eq, nI_leI, nI_ltI, nI_add, pk_mul, ↓reduceIte, nt_le, nf_le, nt_lt, nf_lt, nt_eq, nf_eq, meet_N', meet_P', meet_S', meet_Z', meet_B', meet_O', n_1, n_2, n_3, n_4, n_5, n_10, n_11]
    · rw [e] at z1 x6 ⊢
      simp (disch := omega) only [gz.1, z1, show sv 1 = 0 from rfl, show (20 : Nat) + 0 = 20 from rfl, Option.bind_some, aI_n, aL_n, aQ_n, sA_n, sL_n, csA_n, i_0, i_1, i_2, i_3, i_4, i_5, i_6, i_7, i_8, i_9, i_10, i_11, i_12, i_13, i_16, i_20, i_21, i_22, i_31, i_99, i_100, i_256, i_1000, nI_eq, nI_leI, nI_ltI, nI_add, pk_mul, ↓reduceIte, nt_le, nf_le, nt_lt, nf_lt, nt_eq, nf_eq, meet_N', meet_P', meet_S', meet_Z', meet_B', meet_O', n_1, n_2, n_3, n_4, n_5, n_10, n_11]
      rw [show sv 1 = 0 from rfl, show (20 : Nat) + 0 = 20 from rfl] at x6
      simp (disch := omega) only [x6, Option.bind_some, aI_n, aL_n, aQ_n, sA_n, sL_n, csA_n, i_0, i_1, i_2, i_3, i_4, i_5, i_6, i_7, i_8, i_9, i_10, i_11, i_12, i_13, i_16, i_20, i_21, i_22, i_31, i_99, i_100, i_256, i_1000, nI_eq, nI_leI, nI_ltI, nI_add, pk_mul, ↓reduceIte, nt_le, nf_le, nt_lt, nf_lt, nt_eq, nf_eq, meet_N', meet_P', meet_S', meet_Z', meet_B', meet_O', n_1, n_2, n_3, n_4, n_5, n_10, n_11]
    · rw [e] at z1 x6 ⊢
      simp (disch := omega) only [gz.1, z1, show sv 2 = 1 from rfl, show (20 : Nat) + 1 = 21 from rfl, Option.bind_some, aI_n, aL_n, aQ_n, sA_n, sL_n, csA_n, i_0, i_1, i_2, i_3, i_4, i_5, i_6, i_7, i_8, i_9, i_10, i_11, i_12, i_13, i_16, i_20, i_21, i_22, i_31, i_99, i_100, i_256, i_1000, nI_eq, nI_leI, nI_ltI, nI_add, pk_mul, ↓reduceIte, nt_le, nf_le, nt_lt, nf_lt, nt_eq, nf_eq, meet_N', meet_P', meet_S', meet_Z', meet_B', meet_O', n_1, n_2, n_3, n_4, n_5, n_10, n_11]
      rw [show sv 2 = 1 from rfl, show (20 : Nat) + 1 = 21 from rfl] at x6
      simp (disch := omega) only [x6, Option.bind_some, aI_n, aL_n, aQ_n, sA_n, sL_n, csA_n, i_0, i_1, i_2, i_3, i_4, i_5, i_6, i_7, i_8, i_9, i_10, i_11, i_12, i_13, i_16, i_20, i_21, i_22, i_31, i_99, i_100, i_256, i_1000, nI_eq, nI_leI, nI_ltI, nI_add, pk_mul, ↓reduceIte, nt_le, nf_le, nt_lt, nf_lt, nt_eq, nf_eq, meet_N', meet_P', meet_S', meet_Z', meet_B', meet_O', n_1, n_2, n_3, n_4, n_5, n_10, n_11]
  · refine lpN_s ?_
    show fX10_tree_L72 r (nI pl) (bsI bs) (nI sp) = _
    rw [take72 h1 (by omega) (by omega) hw hp gr.1 h20 h21 h22 h23]
    unfold fX10_tree_L72_J158 fX10_tree_L72_J231 fX10_isSettled
    rcases (show hasT n g c = 0 ∨ hasT n g c = 1 ∨ hasT n g c = 2 by omega) with e | e | e
    · rw [e] at r12 ⊢
      simp (disch := omega) only [r12, show sv 0 = 2 from rfl, show (20 : Nat) + 2 = 22 from rfl, Option.bind_some, aI_n, aL_n, aQ_n, sA_n, sL_n, csA_n, i_0, i_1, i_2, i_3, i_4, i_5, i_6, i_7, i_8, i_9, i_10, i_11, i_12, i_13, i_16, i_20, i_21, i_22, i_31, i_99, i_100, i_256, i_1000, nI_eq, nI_leI, nI_ltI, nI_add, pk_mul, ↓reduceIte, nt_le, nf_le, nt_lt, nf_lt, nt_eq, nf_eq, meet_N', meet_P', meet_S', meet_Z', meet_B', meet_O', n_1, n_2, n_3, n_4, n_5, n_10, n_11]
    · rw [e] at r12 ⊢
      simp (disch := omega) only [r12, show sv 1 = 0 from rfl, show (20 : Nat) + 0 = 20 from rfl, Option.bind_some, aI_n, aL_n, aQ_n, sA_n, sL_n, csA_n, i_0, i_1, i_2, i_3, i_4, i_5, i_6, i_7, i_8, i_9, i_10, i_11, i_12, i_13, i_16, i_20, i_21, i_22, i_31, i_99, i_100, i_256, i_1000, nI_eq, nI_leI, nI_ltI, nI_add, pk_mul, ↓reduceIte, nt_le, nf_le, nt_lt, nf_lt, nt_eq, nf_eq, meet_N', meet_P', meet_S', meet_Z', meet_B', meet_O', n_1, n_2, n_3, n_4, n_5, n_10, n_11]
    · rw [e] at r12 ⊢
      simp (disch := omega) only [r12, show sv 2 = 1 from rfl, show (20 : Nat) + 1 = 21 from rfl, Option.bind_some, aI_n, aL_n, aQ_n, sA_n, sL_n, csA_n, i_0, i_1, i_2, i_3, i_4, i_5, i_6, i_7, i_8, i_9, i_10, i_11, i_12, i_13, i_16, i_20, i_21, i_22, i_31, i_99, i_100, i_256, i_1000, nI_eq, nI_leI, nI_ltI, nI_add, pk_mul, ↓reduceIte, nt_le, nf_le, nt_lt, nf_lt, nt_eq, nf_eq, meet_N', meet_P', meet_S', meet_Z', meet_B', meet_O', n_1, n_2, n_3, n_4, n_5, n_10, n_11]
  · have : j ≠ N := by omega
    rw [cAr_j this, cAr_j this, cAr_j this]
    rfl
  · have : j ≠ N := by omega
    rw [rA_j this, rA_j this, rA_j this, rA_j this]
    exact lkI (N := N)
  · rw [rA_n (by omega), rA_n (by omega), rA_n (by omega), rA_n (by omega), lk_k (by omega)]
    rfl
  · exact cAr_s
  · rw [cAr_n (by omega), cAr_n (by omega)]
    exact cAr_s
  · obtain rfl : k = N := by omega
    refine ⟨20 + sv (hasT n g c), d, ?_, rA_s, ?_, ?_, by omega, Or.inr ⟨by omega, by unfold sv; split; omega; split <;> omega, ?_, ?_⟩⟩
    · rw [cAr_n (by omega)]
      exact cAr_s
    · rw [cAr_n (by omega), cAr_n (by omega)]
      exact cAr_s
    · rw [rA_n (by omega), rA_n (by omega), rA_n (by omega)]
      exact rA_s
    · rw [rA_n (by omega), rA_n (by omega)]
      exact rA_s
    · rw [rA_n (by omega)]
      exact rA_s
theorem push_k {r : RS} {i k : Nat} {c d p w : Int32} (h : k < 20) : (push r i c d p w).2.1 k = r.2.1 k := by
  unfold push
  rw [rA_n (by omega), rA_n (by omega), rA_n (by omega), rA_n (by omega)]
theorem push_j {r : RS} {i k j : Nat} {c d p w : Int32} (h : j ≠ i) : (push r i c d p w).2.1 k j = r.2.1 k j := by
  unfold push
  rw [rA_j h, rA_j h, rA_j h, rA_j h]
theorem push_20 {r : RS} {i : Nat} {c d p w : Int32} : (push r i c d p w).2.1 20 i = c ∧ (push r i c d p w).2.1 21 i = d ∧ (push r i c d p w).2.1 22 i = p ∧ (push r i c d p w).2.1 23 i = w := by
  unfold push
  refine ⟨?_, ?_, ?_, rA_s⟩
  · rw [rA_n (by omega), rA_n (by omega), rA_n (by omega)]; exact rA_s
  · rw [rA_n (by omega), rA_n (by omega)]; exact rA_s
  · rw [rA_n (by omega)]; exact rA_s
