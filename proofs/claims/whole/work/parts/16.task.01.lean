/-! ===== set ===== -/
theorem fitb : ∀ v, v ≤ 2 → fits .byte (.int (nI v)) = true := by decide
theorem St_set_ok : St_set Sim := by
  intro o z r a1 a2 a3 h
  obtain ⟨h1, h2, h3, -⟩ := id h
  unfold fX9_set fX9_set_J9 fX9_set_J19 fX10_set fX10_set_J48 fX10_set_J16
  rcases ix a3 (n := 3) (by omega) with hx3 | ⟨v, hv, rfl⟩
  · refine ⟨(-2, z), (-2, r), ?_, ?_, rfl, h⟩
    · by_cases h0 : a3 < nI 0
      · simp (disch := omega) only [h0, Option.bind_some, aI_n, aL_n, aQ_n, sA_n, sL_n, csA_n, i_0, i_1, i_2, i_3, i_4, i_5, i_6, i_7, i_8, i_9, i_10, i_11, i_12, i_13, i_16, i_20, i_21, i_22, i_31, i_99, i_100, i_256, i_1000, nI_eq, nI_leI, nI_ltI, nI_add, pk_mul, ↓reduceIte, nt_le, nf_le, nt_lt, nf_lt, nt_eq, nf_eq, meet_N', meet_P', meet_S', meet_Z', meet_B', meet_O', n_1, n_2, n_3, n_4, n_5, n_10, n_11]
      · have c2 : ¬ a3 ≤ nI 2 := out4 (m := 2) (by omega) hx3 h0
        simp (disch := omega) only [h0, c2, Option.bind_some, aI_n, aL_n, aQ_n, sA_n, sL_n, csA_n, i_0, i_1, i_2, i_3, i_4, i_5, i_6, i_7, i_8, i_9, i_10, i_11, i_12, i_13, i_16, i_20, i_21, i_22, i_31, i_99, i_100, i_256, i_1000, nI_eq, nI_leI, nI_ltI, nI_add, pk_mul, ↓reduceIte, nt_le, nf_le, nt_lt, nf_lt, nt_eq, nf_eq, meet_N', meet_P', meet_S', meet_Z', meet_B', meet_O', n_1, n_2, n_3, n_4, n_5, n_10, n_11]
    · rcases ix a1 (n := 8) (by omega) with hx | ⟨s, hs, rfl⟩
      · simp (disch := omega) only [isPl10_out hx, Option.bind_some, aI_n, aL_n, aQ_n, sA_n, sL_n, csA_n, i_0, i_1, i_2, i_3, i_4, i_5, i_6, i_7, i_8, i_9, i_10, i_11, i_12, i_13, i_16, i_20, i_21, i_22, i_31, i_99, i_100, i_256, i_1000, nI_eq, nI_leI, nI_ltI, nI_add, pk_mul, ↓reduceIte, nt_le, nf_le, nt_lt, nf_lt, nt_eq, nf_eq, meet_N', meet_P', meet_S', meet_Z', meet_B', meet_O', n_1, n_2, n_3, n_4, n_5, n_10, n_11]
      · by_cases h0 : a3 < nI 0
        · simp (disch := omega) only [isPl10_in hs, h0, Option.bind_some, aI_n, aL_n, aQ_n, sA_n, sL_n, csA_n, i_0, i_1, i_2, i_3, i_4, i_5, i_6, i_7, i_8, i_9, i_10, i_11, i_12, i_13, i_16, i_20, i_21, i_22, i_31, i_99, i_100, i_256, i_1000, nI_eq, nI_leI, nI_ltI, nI_add, pk_mul, ↓reduceIte, nt_le, nf_le, nt_lt, nf_lt, nt_eq, nf_eq, meet_N', meet_P', meet_S', meet_Z', meet_B', meet_O', n_1, n_2, n_3, n_4, n_5, n_10, n_11]
        · have c2 : ¬ a3 ≤ nI 2 := out4 (m := 2) (by omega) hx3 h0
          simp (disch := omega) only [isPl10_in hs, h0, c2, Option.bind_some, aI_n, aL_n, aQ_n, sA_n, sL_n, csA_n, i_0, i_1, i_2, i_3, i_4, i_5, i_6, i_7, i_8, i_9, i_10, i_11, i_12, i_13, i_16, i_20, i_21, i_22, i_31, i_99, i_100, i_256, i_1000, nI_eq, nI_leI, nI_ltI, nI_add, pk_mul, ↓reduceIte, nt_le, nf_le, nt_lt, nf_lt, nt_eq, nf_eq, meet_N', meet_P', meet_S', meet_Z', meet_B', meet_O', n_1, n_2, n_3, n_4, n_5, n_10, n_11]
  rcases plc h3 a1 with hx | ⟨k, hk, rfl, e, e'⟩ | ⟨k, q, n, kd, wt, g, b, hk, rfl, e, t1, t2, n1, n8, hg, d1, d2, d3, p2, p1⟩
  · refine ⟨(-2, z), (-2, r), ?_, ?_, rfl, h⟩
    · simp (disch := omega) only [find9_out hx, Option.bind_some, aI_n, aL_n, aQ_n, sA_n, sL_n, csA_n, i_0, i_1, i_2, i_3, i_4, i_5, i_6, i_7, i_8, i_9, i_10, i_11, i_12, i_13, i_16, i_20, i_21, i_22, i_31, i_99, i_100, i_256, i_1000, nI_eq, nI_leI, nI_ltI, nI_add, pk_mul, ↓reduceIte, nt_le, nf_le, nt_lt, nf_lt, nt_eq, nf_eq, meet_N', meet_P', meet_S', meet_Z', meet_B', meet_O', n_1, n_2, n_3, n_4, n_5, n_10, n_11]
    · simp (disch := omega) only [isPl10_out hx, Option.bind_some, aI_n, aL_n, aQ_n, sA_n, sL_n, csA_n, i_0, i_1, i_2, i_3, i_4, i_5, i_6, i_7, i_8, i_9, i_10, i_11, i_12, i_13, i_16, i_20, i_21, i_22, i_31, i_99, i_100, i_256, i_1000, nI_eq, nI_leI, nI_ltI, nI_add, pk_mul, ↓reduceIte, nt_le, nf_le, nt_lt, nf_lt, nt_eq, nf_eq, meet_N', meet_P', meet_S', meet_Z', meet_B', meet_O', n_1, n_2, n_3, n_4, n_5, n_10, n_11]
  · refine ⟨(-10, _), (-10, _), ?_, ?_, rfl, Sim_met h⟩
    · simp (disch := omega) only [find9_no hk e, Option.bind_some, aI_n, aL_n, aQ_n, sA_n, sL_n, csA_n, i_0, i_1, i_2, i_3, i_4, i_5, i_6, i_7, i_8, i_9, i_10, i_11, i_12, i_13, i_16, i_20, i_21, i_22, i_31, i_99, i_100, i_256, i_1000, nI_eq, nI_leI, nI_ltI, nI_add, pk_mul, ↓reduceIte, nt_le, nf_le, nt_lt, nf_lt, nt_eq, nf_eq, meet_N', meet_P', meet_S', meet_Z', meet_B', meet_O', n_1, n_2, n_3, n_4, n_5, n_10, n_11] <;> rfl
    · simp (disch := omega) only [isPl10_in hk, e', Option.bind_some, aI_n, aL_n, aQ_n, sA_n, sL_n, csA_n, i_0, i_1, i_2, i_3, i_4, i_5, i_6, i_7, i_8, i_9, i_10, i_11, i_12, i_13, i_16, i_20, i_21, i_22, i_31, i_99, i_100, i_256, i_1000, nI_eq, nI_leI, nI_ltI, nI_add, pk_mul, ↓reduceIte, nt_le, nf_le, nt_lt, nf_lt, nt_eq, nf_eq, meet_N', meet_P', meet_S', meet_Z', meet_B', meet_O', n_1, n_2, n_3, n_4, n_5, n_10, n_11] <;> rfl
  · rcases ix a2 (n := 2 ^ n) (by omega) with hx | ⟨x, hxn, rfl⟩
    · refine ⟨(-11, _), (-11, _), ?_, ?_, rfl, Sim_met h⟩
      · simp (disch := omega) only [find9_yes hk e, e, d1, hasIn_out t1 hx, counted_n, Option.bind_some, aI_n, aL_n, aQ_n, sA_n, sL_n, csA_n, i_0, i_1, i_2, i_3, i_4, i_5, i_6, i_7, i_8, i_9, i_10, i_11, i_12, i_13, i_16, i_20, i_21, i_22, i_31, i_99, i_100, i_256, i_1000, nI_eq, nI_leI, nI_ltI, nI_add, pk_mul, ↓reduceIte, nt_le, nf_le, nt_lt, nf_lt, nt_eq, nf_eq, meet_N', meet_P', meet_S', meet_Z', meet_B', meet_O', n_1, n_2, n_3, n_4, n_5, n_10, n_11] <;> rfl
      · by_cases h0 : a2 < nI 0
        · simp (disch := omega) only [isPl10_in hk, t2.1, h0, meet_P, Option.bind_some, aI_n, aL_n, aQ_n, sA_n, sL_n, csA_n, i_0, i_1, i_2, i_3, i_4, i_5, i_6, i_7, i_8, i_9, i_10, i_11, i_12, i_13, i_16, i_20, i_21, i_22, i_31, i_99, i_100, i_256, i_1000, nI_eq, nI_leI, nI_ltI, nI_add, pk_mul, ↓reduceIte, nt_le, nf_le, nt_lt, nf_lt, nt_eq, nf_eq, meet_N', meet_P', meet_S', meet_Z', meet_B', meet_O', n_1, n_2, n_3, n_4, n_5, n_10, n_11] <;> rfl
        · have c2 : ¬ a2 < nI (2 ^ n) := ge_nlt (by omega) (hx.resolve_left h0)
          simp (disch := omega) only [isPl10_in hk, t2.1, h0, inputs_n (show k < 16 by omega) t2.1 n8, c2, meet_P, Option.bind_some, aI_n, aL_n, aQ_n, sA_n, sL_n, csA_n, i_0, i_1, i_2, i_3, i_4, i_5, i_6, i_7, i_8, i_9, i_10, i_11, i_12, i_13, i_16, i_20, i_21, i_22, i_31, i_99, i_100, i_256, i_1000, nI_eq, nI_leI, nI_ltI, nI_add, pk_mul, ↓reduceIte, nt_le, nf_le, nt_lt, nf_lt, nt_eq, nf_eq, meet_N', meet_P', meet_S', meet_Z', meet_B', meet_O', n_1, n_2, n_3, n_4, n_5, n_10, n_11] <;> rfl
    · obtain ⟨b', f, u1, u2, u3, -, -, -⟩ := id t1
      obtain rfl : b = b' := by
        have := d1.symm.trans u1
        simp only [Option.some.injEq, Prod.mk.injEq] at this
        exact this.2.2.2
      have al : alC o z b = some (cn z, cNw z (.inr (.inl (2 ^ n, f)))) := by
        unfold alC
        rw [u2, Option.bind_some, if_pos ⟨h1.1, p2, fun j _ => by show fits .byte (.int (f j)) = true; rw [u3]; exact fitb _ (hg j)⟩]
      have st : stB o (cNw z (.inr (.inl (2 ^ n, f)))) (cn z) (nI x) (Int8.toInt32 (Int32.toInt8 (nI v))) = some (cNw z (.inr (.inl (2 ^ n, upd f x (nI v))))) := by
        unfold stB
        simp only [dB_Nw, Option.bind_some]
        rw [if_pos ⟨ib_nI hxn (by omega), h1.1⟩, nI_clamp (by omega), b8 v (by omega), b8 v (by omega), cD_Nw]
      have px := Nw_PX h1 (.inr (.inl (2 ^ n, upd f x (nI v))))
      have px2 := px.tr (Nw_PX px.2.2.2.2.2 (.inl (nI 0, nI n, nI n, some (cn z))))
      have ht : TkAt (cNw (cNw z (.inr (.inl (2 ^ n, upd f x (nI v))))) (.inl (nI 0, nI n, nI n, some (cn z)))) (cn (cNw z (.inr (.inl (2 ^ n, upd f x (nI v)))))) n (nI 0) (nI n) (fun j => if j = x then v else g j) := by
        refine ⟨cn z, upd f x (nI v), dT_Nw, ?_, fun j => ?_, n1, n8, fun j => ?_⟩
        · exact (Nw_PX px.2.2.2.2.2 _).2.2.2.2.1.B dB_Nw
        · show _ = nI (if j = x then v else g j)
          by_cases hj : j = x
          · rw [hj, pk_us, if_pos rfl]
          · rw [pk_un hj, if_neg hj, u3]
        · show (if j = x then v else g j) ≤ 2
          split
          · omega
          · exact hg j
      have o1 : dT (cNw z (.inr (.inl (2 ^ n, upd f x (nI v))))) q = some (kd, nI n, wt, some b) := px.2.2.2.2.1.T d1
      have o2 : dT (cNw (cNw z (.inr (.inl (2 ^ n, upd f x (nI v))))) (.inl (nI 0, nI n, nI n, some (cn z)))) q = some (kd, nI n, wt, some b) := px2.2.2.2.2.1.T d1
      have o3 : rdB (cQ (cNw (cNw z (.inr (.inl (2 ^ n, upd f x (nI v))))) (.inl (nI 0, nI n, nI n, some (cn z)))) 1 k (some (cn (cNw z (.inr (.inl (2 ^ n, upd f x (nI v)))))))) b (nI x) = some (nI (g x)) := by
        have : dB (cNw (cNw z (.inr (.inl (2 ^ n, upd f x (nI v))))) (.inl (nI 0, nI n, nI n, some (cn z)))) b = some (2 ^ n, f) := px2.2.2.2.2.1.B u2
        show (dB (cNw (cNw z (.inr (.inl (2 ^ n, upd f x (nI v))))) (.inl (nI 0, nI n, nI n, some (cn z)))) b).bind (fun t => aI t.1 t.2 (nI x)) = _
        rw [this, Option.bind_some, aI_n _ hxn (by omega)]
        exact congrArg some (u3 x)
      refine ⟨(nI (g x), _), (nI (g x), rA (rA r 3 (256 * k + x) (nI v)) 1 k (nI 0)), ?_, ?_, rfl, Sim_newtask (r' := rA (rA r 3 (256 * k + x) (nI v)) 1 k (nI 0)) h px hk ht rfl rfl (fun j hj _ _ => ?_) (fun j hj hjk => ⟨?_, ?_, ?_, fun y hy => ?_⟩) ⟨?_, ?_, Or.inl ⟨rfl, rfl⟩, fun y hy => ?_⟩⟩
      · simp (disch := omega) only [find9_yes hk e, e, d1, hasIn_in t1 hxn, al, st, o1, plainT_0 px.2.2.2.2.2, stQT_n hk (okT_n ht), dT_Q, o2, o3, Option.bind_some, aI_n, aL_n, aQ_n, sA_n, sL_n, csA_n, i_0, i_1, i_2, i_3, i_4, i_5, i_6, i_7, i_8, i_9, i_10, i_11, i_12, i_13, i_16, i_20, i_21, i_22, i_31, i_99, i_100, i_256, i_1000, nI_eq, nI_leI, nI_ltI, nI_add, pk_mul, ↓reduceIte, nt_le, nf_le, nt_lt, nf_lt, nt_eq, nf_eq, meet_N', meet_P', meet_S', meet_Z', meet_B', meet_O', n_1, n_2, n_3, n_4, n_5, n_10, n_11]
        rfl
      · simp (disch := omega) only [isPl10_in hk, t2.1, inputs_n (show k < 16 by omega) t2.1 n8, say0_n (show k < 16 by omega) t2 n8 hxn, Option.bind_some, aI_n, aL_n, aQ_n, sA_n, sL_n, csA_n, i_0, i_1, i_2, i_3, i_4, i_5, i_6, i_7, i_8, i_9, i_10, i_11, i_12, i_13, i_16, i_20, i_21, i_22, i_31, i_99, i_100, i_256, i_1000, nI_eq, nI_leI, nI_ltI, nI_add, pk_mul, ↓reduceIte, nt_le, nf_le, nt_lt, nf_lt, nt_eq, nf_eq, meet_N', meet_P', meet_S', meet_Z', meet_B', meet_O', n_1, n_2, n_3, n_4, n_5, n_10, n_11]
      · simp only [rA_A, if_neg (show ¬ j = 1 by omega), if_neg (show ¬ j = 3 by omega)]
      · rfl
      · show upd (r.2.1 1) k (nI 0) j = _
        rw [pk_un hjk]
      · rfl
      · show upd (r.2.1 3) (256 * k + x) (nI v) (256 * j + y) = _
        rw [pk_un (by omega)]
      · exact t2.1
      · show upd (r.2.1 1) k (nI 0) k = _
        rw [pk_us]
      · show upd (r.2.1 3) (256 * k + x) (nI v) (256 * k + y) = nI (if y = x then v else g y)
        by_cases hj : y = x
        · subst hj; rw [pk_us, if_pos rfl]
        · rw [pk_un (by omega), if_neg hj]; exact t2.2.2.2 y hy
/-! ===== kind ===== -/
/-- a loop that looks for the first -/
theorem lp_find {S E : Type} {body : S → Option (S ⊕ E)} (F : Nat → S) (N : Nat) (P : Nat → Prop) (X : Nat → E → Prop) {en : E} (hN : N < bigN) (step : ∀ i, i < N → ¬ P i → body (F i) = some (.inl (F (i + 1)))) (hit : ∀ i, i < N → P i → ∃ e, body (F i) = some (.inr e) ∧ X i e) (last : body (F N) = some (.inr en)) : (lpN body bigN (F 0) = some en ∧ ∀ i, i < N → ¬ P i) ∨ ∃ i e, i < N ∧ P i ∧ (∀ j, j < i → ¬ P j) ∧ X i e ∧ lpN body bigN (F 0) = some e := by
  have HH1 := lp_upto (body := body) (fun i s => s = F i ∧ ∀ j, j < i → ¬ P j) N (fun e => (e = en ∧ ∀ i, i < N → ¬ P i) ∨ ∃ i, i < N ∧ P i ∧ (∀ j, j < i → ¬ P j) ∧ X i e) hN (fun i s hi hs => ?_) (fun s hs => ?_) (s := F 0) ⟨rfl, fun j hj => by omega⟩
  · obtain ⟨e, h1, h2⟩ := HH1
    · rcases h2 with ⟨rfl, h3⟩ | ⟨i, h3, h4, h5, h6⟩
      · exact Or.inl ⟨h1, h3⟩
      · exact Or.inr ⟨i, e, h3, h4, h5, h6, h1⟩
  · obtain ⟨rfl, hs⟩ := hs
    by_cases hP : P i
    · obtain ⟨e, q1, q2⟩ := hit i hi hP
      exact Or.inr ⟨e, q1, Or.inr ⟨i, hi, hP, hs, q2⟩⟩
    · refine Or.inl ⟨_, step i hi hP, rfl, fun j hj => ?_⟩
      by_cases hji : j = i
      · rw [hji]; exact hP
      · exact hs j (by omega)
  · obtain ⟨rfl, hs⟩ := hs
    exact ⟨en, last, Or.inl ⟨rfl, hs⟩⟩
def Rel (kd x y : Nat) : Prop := if kd = 1 then x &&& y = x ∧ pop y = pop x + 1 else pop x = pop y
def Pr (g : Nat → Nat) (kd x y : Nat) : Prop := g x = 1 ∧ Rel kd x y ∧ g y = 0
def LPr (Q : Nat → Nat → Prop) (N x y : Nat) : Prop := x < N ∧ y < N ∧ Q x y ∧ (∀ y', y' < y → ¬ Q x y') ∧ ∀ x', x' < x → ∀ y', y' < N → ¬ Q x' y'
theorem LPr_u {Q : Nat → Nat → Prop} {N x y x' y' : Nat} (h : LPr Q N x y) (h' : LPr Q N x' y') : x = x' ∧ y = y' := by
  obtain ⟨a1, a2, a3, a4, a5⟩ := h
  obtain ⟨b1, b2, b3, b4, b5⟩ := h'
  have e : x = x' := by
    rcases Nat.lt_trichotomy x x' with q | q | q
    · exact absurd a3 (b5 x q y a2)
    · exact q
    · exact absurd b3 (a5 x' q y' b2)
  subst e
  refine ⟨rfl, ?_⟩
  rcases Nat.lt_trichotomy y y' with q | q | q
  · exact absurd a3 (b4 y q)
  · exact q
  · exact absurd b3 (a4 y' q)
theorem falling_n {o : Nat} {z : CS} {q n b x : Nat} {kd wt : Int32} {g : Nat → Nat} (n1 : 1 ≤ n) (n8 : n ≤ 8) (hg : ∀ x, g x ≤ 2) (d1 : dT z q = some (kd, nI n, wt, some b)) (d3 : ∀ x, x < 2 ^ n → rdB z b (nI x) = some (nI (g x))) (hx : x < 2 ^ n) : (fX9_fallingFrom o z q (nI x) = some (-nI 1) ∧ ∀ y, y < 2 ^ n → ¬ (Rel 1 x y ∧ g y = 0)) ∨ ∃ y, y < 2 ^ n ∧ (Rel 1 x y ∧ g y = 0) ∧ (∀ y', y' < y → ¬ (Rel 1 x y' ∧ g y' = 0)) ∧ fX9_fallingFrom o z q (nI x) = some (nI y) := by
  have p2 := p2le n8
  have hR : ∀ y, y < 2 ^ n → Rel 1 x y → ∃ i, i < n ∧ x / 2 ^ i % 2 = 0 ∧ y = x + 2 ^ i := by
    intro y hy hr
    unfold Rel at hr
    rw [if_pos rfl] at hr
    obtain ⟨i, h1, h2, h3⟩ := fall (by omega) (by omega) hr.1 hr.2
    refine ⟨i, ?_, h2, h3⟩
    by_cases hin : i < n
    · exact hin
    · have := Nat.pow_le_pow_right (show 0 < 2 by omega) (show n ≤ i by omega)
      omega
  have hup : ∀ i, i < n → x / 2 ^ i % 2 = 0 → x + 2 ^ i < 2 ^ n := by
    intro i hi hb
    have e1 : 2 ^ n = 2 ^ i * (2 * 2 ^ (n - 1 - i)) := by
      rw [← Nat.pow_succ', ← Nat.pow_add]
      congr 1
      omega
    have e2 := Nat.div_add_mod x (2 ^ i)
    have e3 := Nat.mod_lt x (show 0 < 2 ^ i from Nat.two_pow_pos i)
    have e4 : x / 2 ^ i < 2 * 2 ^ (n - 1 - i) := by
      rw [Nat.div_lt_iff_lt_mul (Nat.two_pow_pos i), Nat.mul_comm]
      omega
    have e5 : x / 2 ^ i + 2 ≤ 2 * 2 ^ (n - 1 - i) := by omega
    have e6 := Nat.mul_le_mul_left (2 ^ i) e5
    rw [Nat.mul_add] at e6
    omega
  unfold fX9_fallingFrom
  have HH2 := lp_find (body := fun u => fX9_fallingFrom_L2 o z q (nI x) u) (fun i => nI i) n (fun i => x / 2 ^ i % 2 = 0 ∧ g (x + 2 ^ i) = 0) (fun i e => e = .inr (nI (x + 2 ^ i))) (en := .inl ()) (bigN_gt (by omega)) (fun i hi hP => ?_) (fun i hi hP => ?_) ?_
  · rcases HH2 with ⟨e1, e2⟩ | ⟨i, e, e1, e2, e3, rfl, e4⟩
    · left
      refine ⟨(congrArg (fun u => u.bind fun e5 => sel e5 (fun _ => some (-1 : Int32)) (fun rt => some rt)) e1).trans rfl, fun y hy hr => ?_⟩
      obtain ⟨i, q1, q2, rfl⟩ := hR y hy hr.1
      exact e2 i q1 ⟨q2, hr.2⟩
    · right
      have f2 := fall2 x (by omega) i (by omega) e2.1
      refine ⟨x + 2 ^ i, hup i e1 e2.1, ⟨by unfold Rel; rw [if_pos rfl]; exact ⟨f2.2.1, f2.2.2.1⟩, e2.2⟩, fun y' hy' hr => ?_, (congrArg (fun u => u.bind fun e5 => sel e5 (fun _ => some (-1 : Int32)) (fun rt => some rt)) e4).trans rfl⟩
      have := hup i e1 e2.1
      obtain ⟨j, q1, q2, rfl⟩ := hR y' (by omega) hr.1
      refine e3 j ?_ ⟨q2, hr.2⟩
      by_cases hij : j < i
      · exact hij
      · have := Nat.pow_le_pow_right (show 0 < 2 by omega) (show i ≤ j by omega)
        omega
  · unfold fX9_fallingFrom_L2 fX9_fallingFrom_L2_J32
    have := p2pos (n := i)
    rcases Nat.mod_two_eq_zero_or_one (x / 2 ^ i) with hb | hb
    · have f2 := (fall2 x (by omega) i (by omega) hb).2.2.2
      have hg0 : ¬ g (x + 2 ^ i) = 0 := fun q => hP ⟨hb, q⟩
      have := hup i hi hb
      have := hg (x + 2 ^ i)
      simp (disch := omega) only [d1, shl1' i (by omega), nI_or, f2, d3 _ (hup i hi hb), Option.bind_some, aI_n, aL_n, aQ_n, sA_n, sL_n, csA_n, i_0, i_1, i_2, i_3, i_4, i_5, i_6, i_7, i_8, i_9, i_10, i_11, i_12, i_13, i_16, i_20, i_21, i_22, i_31, i_99, i_100, i_256, i_1000, nI_eq, nI_leI, nI_ltI, nI_add, pk_mul, ↓reduceIte, nt_le, nf_le, nt_lt, nf_lt, nt_eq, nf_eq, meet_N', meet_P', meet_S', meet_Z', meet_B', meet_O', n_1, n_2, n_3, n_4, n_5, n_10, n_11]
    · have f3 := fall3 x (by omega) i (by omega) hb
      simp (disch := omega) only [d1, shl1' i (by omega), nI_or, f3, Option.bind_some, aI_n, aL_n, aQ_n, sA_n, sL_n, csA_n, i_0, i_1, i_2, i_3, i_4, i_5, i_6, i_7, i_8, i_9, i_10, i_11, i_12, i_13, i_16, i_20, i_21, i_22, i_31, i_99, i_100, i_256, i_1000, nI_eq, nI_leI, nI_ltI, nI_add, pk_mul, ↓reduceIte, nt_le, nf_le, nt_lt, nf_lt, nt_eq, nf_eq, meet_N', meet_P', meet_S', meet_Z', meet_B', meet_O', n_1, n_2, n_3, n_4, n_5, n_10, n_11]
  · unfold fX9_fallingFrom_L2 fX9_fallingFrom_L2_J32
    have := p2pos (n := i)
    have f2 := (fall2 x (by omega) i (by omega) hP.1).2.2.2
    have := hup i hi hP.1
    refine ⟨_, ?_, rfl⟩
    simp (disch := omega) only [d1, shl1' i (by omega), nI_or, f2, d3 _ (hup i hi hP.1), hP.2, Option.bind_some, aI_n, aL_n, aQ_n, sA_n, sL_n, csA_n, i_0, i_1, i_2, i_3, i_4, i_5, i_6, i_7, i_8, i_9, i_10, i_11, i_12, i_13, i_16, i_20, i_21, i_22, i_31, i_99, i_100, i_256, i_1000, nI_eq, nI_leI, nI_ltI, nI_add, pk_mul, ↓reduceIte, nt_le, nf_le, nt_lt, nf_lt, nt_eq, nf_eq, meet_N', meet_P', meet_S', meet_Z', meet_B', meet_O', n_1, n_2, n_3, n_4, n_5, n_10, n_11]
  · unfold fX9_fallingFrom_L2
    simp (disch := omega) only [d1, Option.bind_some, aI_n, aL_n, aQ_n, sA_n, sL_n, csA_n, i_0, i_1, i_2, i_3, i_4, i_5, i_6, i_7, i_8, i_9, i_10, i_11, i_12, i_13, i_16, i_20, i_21, i_22, i_31, i_99, i_100, i_256, i_1000, nI_eq, nI_leI, nI_ltI, nI_add, pk_mul, ↓reduceIte, nt_le, nf_le, nt_lt, nf_lt, nt_eq, nf_eq, meet_N', meet_P', meet_S', meet_Z', meet_B', meet_O', n_1, n_2, n_3, n_4, n_5, n_10, n_11]
