def GTz (z0 z : CS) (N : Nat) : Prop := z.1 6 = nI N ∧ (∀ k, k ≠ 6 → z.1 k = z0.1 k) ∧ (∀ k, (k < 3 ∨ 5 < k) → z.2.1 k = z0.2.1 k) ∧ z.2.2 = z0.2.2
def GTr (r0 r : RS) (N : Nat) : Prop := r.1 5 = nI N ∧ (∀ k, k ≠ 5 → r.1 k = r0.1 k) ∧ (∀ k, (k < 16 ∨ 23 < k) → r.2.1 k = r0.2.1 k) ∧ r.2.2 = r0.2.2
def lk (r : RS) (p w : Nat) (v : Int32) : RS := if w = 0 then rA r 18 p v else if w = 1 then rA r 19 p v else r
def push (r : RS) (i : Nat) (c d p w : Int32) : RS := rA (rA (rA (rA r 20 i c) 21 i d) 22 i p) 23 i w
theorem lk_1 {r : RS} {p w : Nat} {v : Int32} : (lk r p w v).1 = r.1 := by unfold lk; split; rfl; split <;> rfl
theorem lk_2 {r : RS} {p w : Nat} {v : Int32} : (lk r p w v).2.2 = r.2.2 := by unfold lk; split; rfl; split <;> rfl
theorem lk_k {r : RS} {p w k : Nat} {v : Int32} (h : k < 18 ∨ 19 < k) : (lk r p w v).2.1 k = r.2.1 k := by
  unfold lk
  split
  · rw [rA_n (by omega)]
  · split
    · rw [rA_n (by omega)]
    · rfl
theorem lk_j {r : RS} {p w k j : Nat} {v : Int32} (h : j ≠ p) : (lk r p w v).2.1 k j = r.2.1 k j := by
  have key : ∀ i, (rA r i p v).2.1 k j = r.2.1 k j := fun i => by
    by_cases e : k = i
    · rw [e, rA_e, pk_un h]
    · rw [rA_n e]
  unfold lk
  split
  · exact key 18
  · split
    · exact key 19
    · rfl
theorem GTr.lk {r0 r : RS} {N p w : Nat} {v : Int32} (h : GTr r0 r N) : GTr r0 (lk r p w v) N := ⟨by rw [lk_1]; exact h.1, fun k hk => by rw [lk_1]; exact h.2.1 k hk, fun k hk => by rw [lk_k (by omega)]; exact h.2.2.1 k hk, by rw [lk_2]; exact h.2.2.2⟩
theorem GTr.up {r0 r : RS} {N k i : Nat} {v : Int32} (h : GTr r0 r N) (hk : 16 ≤ k) (hk' : k ≤ 23) : GTr r0 (rA r k i v) N := ⟨h.1, h.2.1, fun j hj => by rw [rA_n (by omega)]; exact h.2.2.1 j hj, h.2.2.2⟩
theorem GTr.push {r0 r : RS} {N i : Nat} {c d p w : Int32} (h : GTr r0 r N) : GTr r0 (push r i c d p w) N := (((h.up (by omega) (by omega)).up (by omega) (by omega)).up (by omega) (by omega)).up (by omega) (by omega)
theorem GTr.nx {r0 r : RS} {N : Nat} (h : GTr r0 r N) : GTr r0 (rI r 5 (nI (N + 1))) (N + 1) := ⟨rI_e, fun k hk => by rw [rI_n hk]; exact h.2.1 k hk, h.2.2.1, h.2.2.2⟩
theorem GTz.up {z0 z : CS} {N k i : Nat} {v : Int32} (h : GTz z0 z N) (hk : 3 ≤ k) (hk' : k ≤ 5) : GTz z0 (cAr z k i v) N := ⟨h.1, h.2.1, fun j hj => by rw [cAr_n (by omega)]; exact h.2.2.1 j hj, h.2.2.2⟩
theorem GTz.nx {z0 z : CS} {N : Nat} (h : GTz z0 z N) : GTz z0 (cI z 6 (nI (N + 1))) (N + 1) := ⟨cI_e, fun k hk => by rw [cI_n hk]; exact h.2.1 k hk, h.2.2.1, h.2.2.2⟩
theorem GTz.wz {z0 z : CS} {N q n : Nat} {g : Nat → Nat} {bs : Bool} (h : GTz z0 z N) (w : WZ z0 q n g bs) : WZ z q n g bs := by
  obtain ⟨w1, w2, ⟨kd, wt, b, w3⟩, w4⟩ := w
  refine ⟨by rw [h.2.2.2]; exact w1, by rw [h.2.1 4 (by omega)]; exact w2, ⟨kd, wt, b, ?_⟩, fun c hc => by rw [h.2.2.1 1 (by omega), h.2.2.1 2 (by omega)]; exact w4 c hc⟩
  have : dT z q = dT z0 q := by unfold dT cpl; rw [h.2.2.2]
  rw [this]; exact w3
/-- what the reference's tree rests on -/
def RZ (r : RS) (p n : Nat) (g : Nat → Nat) : Prop := PwR r ∧ r.2.1 0 p = nI n ∧ CubR r r n g (3 ^ n)
theorem GTr.rz {r0 r : RS} {N p n : Nat} {g : Nat → Nat} (h : GTr r0 r N) (w : RZ r0 p n g) : RZ r p n g := by
  obtain ⟨w1, w2, w3⟩ := w
  refine ⟨fun k hk => by rw [h.2.2.1 11 (by omega)]; exact w1 k hk, by rw [h.2.2.1 0 (by omega)]; exact w2, rfl, rfl, fun _ _ => rfl, fun d hd => ?_⟩
  rw [h.2.2.1 12 (by omega), h.2.2.1 13 (by omega), h.2.2.1 14 (by omega), h.2.2.1 15 (by omega)]
  exact w3.2.2.2 d hd
theorem NdR_tr {N N' lo k : Nat} {sg ah be says looks ze on sg' ah' be' says' looks' ze' on' : Nat → Int32} (h : NdR N sg ah be says looks ze on k) (hN : N ≤ N') (hk : k < N) (hl : lo ≤ k) (fr : ∀ j, lo ≤ j → j < N → sg' j = sg j ∧ ah' j = ah j ∧ be' j = be j ∧ says' j = says j ∧ looks' j = looks j ∧ ze' j = ze j ∧ on' j = on j) : NdR N' sg' ah' be' says' looks' ze' on' k := by
  obtain ⟨s, d, h1, h2, h3, h4, h5, h6⟩ := h
  obtain ⟨f1, f2, f3, f4, f5, f6, f7⟩ := fr k hl hk
  refine ⟨s, d, by rw [f1]; exact h1, by rw [f4]; exact h2, by rw [f2]; exact h3, by rw [f5]; exact h4, h5, ?_⟩
  rcases h6 with ⟨g1, g2, m, g3, g4, g5, g6, g7, g8⟩ | ⟨g1, g2, g3, g4⟩
  · left
    have e1 := fr (k + 1) (by omega) (by omega)
    have e2 := fr m (by omega) g4
    exact ⟨g1, by rw [f6]; exact g2, m, g3, by omega, by rw [e1.2.2.1]; exact g5, by rw [f7]; exact g6, by rw [e1.2.1]; exact g7, by rw [e2.2.1]; exact g8⟩
  · exact Or.inr ⟨g1, g2, by rw [f6]; exact g3, by rw [f7]; exact g4⟩
theorem two_one : 2 - 1 = 1 := rfl
theorem push_n {r : RS} {sp c d N b : Nat} {l1 l2 : Int32} (hp : PwR r) (hb : b ≤ 8) (hsp : sp + 1 < 40) (hc : 2 * 3 ^ b ≤ c) : lpN (fun u => fX10_tree_L262 u.2.2 l1 l2 (nI c) (nI d) (nI N) (nI b) u.1 u.2.1) bigN (nI sp, nI 1, r) = some (nI (sp + 2), push (push r sp (nI (c - 3 ^ b)) (nI (d + 1)) (nI N) (nI 1)) (sp + 1) (nI (c - 2 * 3 ^ b)) (nI (d + 1)) (nI N) (nI 0)) := by
  have h1 : fX10_tree_L262 r l1 l2 (nI c) (nI d) (nI N) (nI b) (nI sp) (nI 1) = some (.inl (nI (sp + 1), nI 0, push r sp (nI (c - 3 ^ b)) (nI (d + 1)) (nI N) (nI 1))) := by
    unfold fX10_tree_L262
    simp (disch := omega) only [hp b hb, pk_sub, m1_add, Option.bind_some, aI_n, aL_n, aQ_n, sA_n, sL_n, csA_n, i_0, i_1, i_2, i_3, i_4, i_5, i_6, i_7, i_8, i_9, i_10, i_11, i_12, i_13, i_16, i_20, i_21, i_22, i_31, i_99, i_100, i_256, i_1000, nI_eq, nI_leI, nI_ltI, nI_add, pk_mul, ↓reduceIte, nt_le, nf_le, nt_lt, nf_lt, nt_eq, nf_eq, meet_N', meet_P', meet_S', meet_Z', meet_B', meet_O', n_1, n_2, n_3, n_4, n_5, n_10, n_11]
    rw [two_one, Nat.one_mul]
    rfl
  have hp2 : PwR (push r sp (nI (c - 3 ^ b)) (nI (d + 1)) (nI N) (nI 1)) := hp
  have h2 : fX10_tree_L262 (push r sp (nI (c - 3 ^ b)) (nI (d + 1)) (nI N) (nI 1)) l1 l2 (nI c) (nI d) (nI N) (nI b) (nI (sp + 1)) (nI 0) = some (.inl (nI (sp + 2), -nI 1, push (push r sp (nI (c - 3 ^ b)) (nI (d + 1)) (nI N) (nI 1)) (sp + 1) (nI (c - 2 * 3 ^ b)) (nI (d + 1)) (nI N) (nI 0))) := by
    unfold fX10_tree_L262
    simp (disch := omega) only [hp2 b hb, pk_sub, Nat.sub_zero, Option.bind_some, aI_n, aL_n, aQ_n, sA_n, sL_n, csA_n, i_0, i_1, i_2, i_3, i_4, i_5, i_6, i_7, i_8, i_9, i_10, i_11, i_12, i_13, i_16, i_20, i_21, i_22, i_31, i_99, i_100, i_256, i_1000, nI_eq, nI_leI, nI_ltI, nI_add, pk_mul, ↓reduceIte, nt_le, nf_le, nt_lt, nf_lt, nt_eq, nf_eq, meet_N', meet_P', meet_S', meet_Z', meet_B', meet_O', n_1, n_2, n_3, n_4, n_5, n_10, n_11]
    rfl
  have h3 : fX10_tree_L262 (push (push r sp (nI (c - 3 ^ b)) (nI (d + 1)) (nI N) (nI 1)) (sp + 1) (nI (c - 2 * 3 ^ b)) (nI (d + 1)) (nI N) (nI 0)) l1 l2 (nI c) (nI d) (nI N) (nI b) (nI (sp + 2)) (-nI 1) = some (.inr (nI (sp + 2), push (push r sp (nI (c - 3 ^ b)) (nI (d + 1)) (nI N) (nI 1)) (sp + 1) (nI (c - 2 * 3 ^ b)) (nI (d + 1)) (nI N) (nI 0))) := by
    unfold fX10_tree_L262
    simp (disch := omega) only [m1gt, Option.bind_some, aI_n, aL_n, aQ_n, sA_n, sL_n, csA_n, i_0, i_1, i_2, i_3, i_4, i_5, i_6, i_7, i_8, i_9, i_10, i_11, i_12, i_13, i_16, i_20, i_21, i_22, i_31, i_99, i_100, i_256, i_1000, nI_eq, nI_leI, nI_ltI, nI_add, pk_mul, ↓reduceIte, nt_le, nf_le, nt_lt, nf_lt, nt_eq, nf_eq, meet_N', meet_P', meet_S', meet_Z', meet_B', meet_O', n_1, n_2, n_3, n_4, n_5, n_10, n_11]
  have e : bigN = 999999997 + 1 + 1 + 1 := rfl
  rw [e, lpN_s (s' := (nI (sp + 1), nI 0, push r sp (nI (c - 3 ^ b)) (nI (d + 1)) (nI N) (nI 1))) h1, lpN_s (s' := (nI (sp + 2), -nI 1, push (push r sp (nI (c - 3 ^ b)) (nI (d + 1)) (nI N) (nI 1)) (sp + 1) (nI (c - 2 * 3 ^ b)) (nI (d + 1)) (nI N) (nI 0))) h2, lpN_e h3]
/-- the first part of a step of the reference's loop: the node that is taken from the stack -/
theorem take72 {r : RS} {sp c d p w N : Nat} {l1 l2 : Int32} (h1 : 1 ≤ sp) (hsp : sp ≤ 40) (hN : N < 511) (hw : w ≤ 2) (hp : w < 2 → p < N) (h5 : r.1 5 = nI N) (h20 : r.2.1 20 (sp - 1) = nI c) (h21 : r.2.1 21 (sp - 1) = nI d) (h22 : w = 2 → r.2.1 22 (sp - 1) = -nI 1) (h23 : w < 2 → r.2.1 22 (sp - 1) = nI p ∧ r.2.1 23 (sp - 1) = nI w) : fX10_tree_L72 r l1 l2 (nI sp) = fX10_tree_L72_J158 (lk (rI r 5 (nI (N + 1))) p w (nI N)) l1 l2 (nI (sp - 1)) (nI c) (nI d) (nI N) := by
  unfold fX10_tree_L72
  by_cases e : w = 2
  · subst e
    have x := h22 rfl
    simp (disch := omega) only [m1_add, h20, h21, h5, x, rI_A, m1gt, Option.bind_some, aI_n, aL_n, aQ_n, sA_n, sL_n, csA_n, i_0, i_1, i_2, i_3, i_4, i_5, i_6, i_7, i_8, i_9, i_10, i_11, i_12, i_13, i_16, i_20, i_21, i_22, i_31, i_99, i_100, i_256, i_1000, nI_eq, nI_leI, nI_ltI, nI_add, pk_mul, ↓reduceIte, nt_le, nf_le, nt_lt, nf_lt, nt_eq, nf_eq, meet_N', meet_P', meet_S', meet_Z', meet_B', meet_O', n_1, n_2, n_3, n_4, n_5, n_10, n_11]
    rfl
  · have x := h23 (by omega)
    have hpN := hp (by omega)
    rcases (show w = 0 ∨ w = 1 by omega) with rfl | rfl
    · simp (disch := omega) only [m1_add, h20, h21, h5, x.1, x.2, rI_A, Option.bind_some, aI_n, aL_n, aQ_n, sA_n, sL_n, csA_n, i_0, i_1, i_2, i_3, i_4, i_5, i_6, i_7, i_8, i_9, i_10, i_11, i_12, i_13, i_16, i_20, i_21, i_22, i_31, i_99, i_100, i_256, i_1000, nI_eq, nI_leI, nI_ltI, nI_add, pk_mul, ↓reduceIte, nt_le, nf_le, nt_lt, nf_lt, nt_eq, nf_eq, meet_N', meet_P', meet_S', meet_Z', meet_B', meet_O', n_1, n_2, n_3, n_4, n_5, n_10, n_11]
      rfl
    · simp (disch := omega) only [m1_add, h20, h21, h5, x.1, x.2, rI_A, Option.bind_some, aI_n, aL_n, aQ_n, sA_n, sL_n, csA_n, i_0, i_1, i_2, i_3, i_4, i_5, i_6, i_7, i_8, i_9, i_10, i_11, i_12, i_13, i_16, i_20, i_21, i_22, i_31, i_99, i_100, i_256, i_1000, nI_eq, nI_leI, nI_ltI, nI_add, pk_mul, ↓reduceIte, nt_le, nf_le, nt_lt, nf_lt, nt_eq, nf_eq, meet_N', meet_P', meet_S', meet_Z', meet_B', meet_O', n_1, n_2, n_3, n_4, n_5, n_10, n_11]
      rfl
