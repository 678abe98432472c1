/-! ===== the pool grows ===== -/
/-- the most general change that no part of the relation but sheets and places sees -/
theorem Sim_g {o : Nat} {z z' : CS} {r r' : RS} (h : Sim o z r) (hz1 : ∀ k, k ≠ 7 → k ≠ 8 → k ≠ 10 → z'.1 k = z.1 k) (hz2 : ∀ k, (k < 6 ∨ k = 13 ∨ 16 ≤ k) → z'.2.1 k = z.2.1 k) (hw : z'.2.2.2.1 = z.2.2.2.1) (ge : TkGe z z') (hr1 : ∀ k, k ≠ 6 → r'.1 k = r.1 k) (hr2 : ∀ k, (k = 7 ∨ k = 11 ∨ (16 ≤ k ∧ k ≤ 19) ∨ k = 26 ∨ k = 29 ∨ k = 30) → r'.2.1 k = r.2.1 k) (g1 : PoolOK o z') (g2 : ShR z' r') (g3 : PlR z' r' 1 0) (g4 : PlR z' r' 2 8) : Sim o z' r' := by
  obtain ⟨h1, h2, h3, h4, h5, h6, h7, h8, h9, h10, h11, h12, h13⟩ := h
  refine ⟨g1, g2, g3, g4, ?_, ?_, ?_, ?_, ?_, ?_, ?_, ?_, ?_⟩
  · unfold WtR at h5 ⊢
    rw [hz1 1 (by omega) (by omega) (by omega), hr1 1 (by omega), hz2 0 (by omega), hr2 7 (by omega)]; exact h5
  · unfold ScR at h6 ⊢
    rw [hz1 3 (by omega) (by omega) (by omega), hz1 0 (by omega) (by omega) (by omega), hz1 2 (by omega) (by omega) (by omega), hr1 0 (by omega), hr1 2 (by omega), hr1 3 (by omega), hr1 4 (by omega)]; exact h6
  · unfold PwR at h7 ⊢
    rw [hr2 11 (by omega)]; exact h7
  · unfold TrR at h8 ⊢
    rw [hz1 6 (by omega) (by omega) (by omega), hr1 5 (by omega), hz2 3 (by omega), hz2 4 (by omega), hz2 5 (by omega), hr2 16 (by omega), hr2 17 (by omega), hr2 18 (by omega), hr2 19 (by omega)]; exact h8
  · unfold FoR at h9 ⊢
    rw [hz1 9 (by omega) (by omega) (by omega), hr1 7 (by omega), hz2 13 (by omega), hr2 26 (by omega)]; exact h9
  · unfold LeR at h10 ⊢
    rw [hz1 11 (by omega) (by omega) (by omega), hz2 16 (by omega)]; exact h10
  · exact CuR_ge h11 ge (by rw [hw]) (hz1 5 (by omega) (by omega) (by omega)) (hz1 4 (by omega) (by omega) (by omega)) (hz2 1 (by omega)) (hz2 2 (by omega))
  · exact CuR_ge h12 ge (by rw [hw]) (hz1 16 (by omega) (by omega) (by omega)) (hz1 15 (by omega) (by omega) (by omega)) (hz2 17 (by omega)) (hz2 18 (by omega))
  · exact GaR_ge h13 ge (by rw [hw]) ⟨hz1 12 (by omega) (by omega) (by omega), hz1 13 (by omega) (by omega) (by omega), hz1 14 (by omega) (by omega) (by omega), hz1 15 (by omega) (by omega) (by omega)⟩ ⟨hr1 8 (by omega), hr1 9 (by omega), hr2 29 (by omega), hr2 30 (by omega)⟩
theorem PoolGe.rf {z : CS} : PoolGe z z := fun _ _ h => h
theorem PoolGe.tr {x y z : CS} (h : PoolGe x y) (h' : PoolGe y z) : PoolGe x z := fun q t e => h' q t (h q t e)
def PX (o : Nat) (z y : CS) : Prop := y.1 = z.1 ∧ y.2.1 = z.2.1 ∧ y.2.2.1 = z.2.2.1 ∧ y.2.2.2.1 = z.2.2.2.1 ∧ PoolGe z y ∧ PoolOK o y
theorem PX.rf {o : Nat} {z : CS} (h : PoolOK o z) : PX o z z := ⟨rfl, rfl, rfl, rfl, PoolGe.rf, h⟩
theorem PX.tr {o : Nat} {x y z : CS} (h : PX o x y) (h' : PX o y z) : PX o x z := ⟨h'.1.trans h.1, h'.2.1.trans h.2.1, h'.2.2.1.trans h.2.2.1, h'.2.2.2.1.trans h.2.2.2.1, h.2.2.2.2.1.tr h'.2.2.2.2.1, h'.2.2.2.2.2⟩
theorem pool_cn {o : Nat} {z : CS} (h : PoolOK o z) : cpl z (cn z) = none := by
  cases e : cpl z (cn z) with
  | none => rfl
  | some x => exact absurd (h.2 _ _ e).2 (Nat.lt_irrefl _)
theorem Nw_self {z : CS} {x : PE} : cpl (cNw z x) (cn z) = some x := by
  show (if cn z = cn z then some x else _) = _
  rw [if_pos rfl]
theorem Nw_old {z : CS} {x : PE} {q : Nat} (h : q ≠ cn z) : cpl (cNw z x) q = cpl z q := by
  show (if q = cn z then some x else _) = _
  rw [if_neg h]
theorem Nw_PX {o : Nat} {z : CS} (h : PoolOK o z) (x : PE) : PX o z (cNw z x) := by
  refine ⟨rfl, rfl, rfl, rfl, fun q t e => ?_, ⟨Nat.le_trans h.1 (Nat.le_succ _), fun q t e => ?_⟩⟩
  · rw [Nw_old]
    · exact e
    · intro hq; subst hq; rw [pool_cn h] at e; cases e
  · by_cases hq : q = cn z
    · subst hq; exact ⟨h.1, Nat.lt_succ_self _⟩
    · rw [Nw_old hq] at e
      have := h.2 q t e
      exact ⟨this.1, Nat.lt_succ_of_lt this.2⟩
theorem dT_Nw {z : CS} {t : Int32 × Int32 × Int32 × Option Nat} : dT (cNw z (.inl t)) (cn z) = some t := by
  unfold dT; rw [Nw_self]
theorem dB_Nw {z : CS} {t : Nat × (Nat → Int32)} : dB (cNw z (.inr (.inl t))) (cn z) = some t := by
  unfold dB; rw [Nw_self]
theorem cD_Nw {z : CS} {x y : PE} : cD (cNw z x) (cn z) y = cNw z y := by
  unfold cD cNw
  refine congrArg (fun f => (z.1, z.2.1, z.2.2.1, z.2.2.2.1, f, cn z + 1)) (funext fun j => ?_)
  by_cases h : j = cn z
  · rw [if_pos h, if_pos h]
  · rw [if_neg h, if_neg h]
    show (if j = cn z then _ else _) = _
    rw [if_neg h]
/-- the task that a constructor makes -/
theorem alT_n {o : Nat} {z : CS} (h : PoolOK o z) : alT o z = some (cn z, cNw z (.inl (0, 0, 0, none))) := by
  unfold alT; rw [if_pos h.1]
theorem init8_n {o : Nat} {z : CS} (h : PoolOK o z) {kd n wt : Int32} {b : Nat} : fX8_init o (cNw z (.inl (0, 0, 0, none))) (cn z) kd n wt b = some (cNw z (.inl (kd, n, wt, some b))) := by
  unfold fX8_init stT stTs
  simp only [dT_Nw, Option.bind_some, if_pos h.1, cD_Nw]
  rfl
theorem plainT_0 {o : Nat} {z : CS} (h : PoolOK o z) {n : Int32} {b : Nat} : fX9_plainTask o z (nI 0) n b = some (cn z, cNw z (.inl (nI 0, n, n, some b))) := by
  unfold fX9_plainTask fX9_plainTask_J18
  rw [alT_n h, Option.bind_some, if_pos (show nI 0 = 0 from rfl), init8_n h]
  rfl
theorem plainT_k {o : Nat} {z : CS} (h : PoolOK o z) {kd n : Int32} {b : Nat} (hk : ¬ kd = 0) : fX9_plainTask o z kd n b = some (cn z, cNw z (.inl (kd, n, n + 10, some b))) := by
  unfold fX9_plainTask fX9_plainTask_J18
  rw [alT_n h, Option.bind_some, if_neg hk, init8_n h]
  rfl
/-- a byte row that is being made -/
def rowf (G : Nat → Nat) (i x : Nat) : Int32 := if x < i then nI (G x) else 0
def rowg (G : Nat → Nat) (i x : Nat) : Nat := if x < i then G x else 0
theorem rowf_g (G : Nat → Nat) (i x : Nat) : rowf G i x = nI (rowg G i x) := by
  unfold rowf rowg
  by_cases h : x < i
  · rw [if_pos h, if_pos h]
  · rw [if_neg h, if_neg h]; rfl
theorem rowf_0 (G : Nat → Nat) : rowf G 0 = fun _ => 0 := funext fun x => if_neg (Nat.not_lt_zero x)
theorem rowf_s (G : Nat → Nat) (i : Nat) : upd (rowf G i) i (nI (G i)) = rowf G (i + 1) := by
  funext x
  unfold upd rowf
  by_cases h : x = i
  · rw [if_pos h, if_pos (by omega), h]
  · rw [if_neg h]
    by_cases h2 : x < i
    · rw [if_pos h2, if_pos (by omega)]
    · rw [if_neg h2, if_neg (by omega)]
def zB (z : CS) (m : Nat) (G : Nat → Nat) (i : Nat) : CS := cNw z (.inr (.inl (m, rowf G i)))
theorem lok_n {m : Nat} (h : m ≤ 256) : lok (nI m) = true := by
  unfold lok
  rw [nI_toInt (by omega)]
  exact decide_eq_true ⟨by omega, by omega⟩
theorem alB_n {o : Nat} {z : CS} (h : PoolOK o z) {m : Nat} (hm : m ≤ 256) (G : Nat → Nat) : alB o z (nI m) = some (cn z, zB z m G 0) := by
  unfold alB
  rw [if_pos ⟨h.1, lok_n hm⟩, nI_clamp (by omega)]
  unfold zB
  rw [rowf_0]
theorem stB_n {o : Nat} {z : CS} (h : PoolOK o z) {m i : Nat} {G : Nat → Nat} {v : Int32} (hi : i < m) (hm : m ≤ 256) (hv : v.toInt8.toInt32 = nI (G i)) : stB o (zB z m G i) (cn z) (nI i) v = some (zB z m G (i + 1)) := by
  unfold stB zB
  simp only [dB_Nw, Option.bind_some]
  rw [if_pos ⟨ib_nI hi (by omega), h.1⟩, nI_clamp (by omega), hv, cD_Nw, rowf_s]
theorem lnB_z {z : CS} {m i : Nat} {G : Nat → Nat} : lnB (zB z m G i) (cn z) = some (nI m) := by
  unfold lnB zB
  simp only [dB_Nw, Option.bind_some]
theorem zB_PX {o : Nat} {z : CS} (h : PoolOK o z) {m i : Nat} {G : Nat → Nat} : PX o z (zB z m G i) := Nw_PX h _
theorem b8 : ∀ v, v ≤ 2 → (nI v).toInt8.toInt32 = nI v := by decide
/-- a row that is made is a task's -/
theorem TkAt_z {o : Nat} {z : CS} (h : PoolOK o z) {n : Nat} {G : Nat → Nat} {kd wt : Int32} (h1 : 1 ≤ n) (h8 : n ≤ 8) (hG : ∀ x, x < 2 ^ n → G x ≤ 2) : TkAt (cNw (zB z (2 ^ n) G (2 ^ n)) (.inl (kd, nI n, wt, some (cn z)))) (cn (zB z (2 ^ n) G (2 ^ n))) n kd wt (rowg G (2 ^ n)) := by
  refine ⟨cn z, rowf G (2 ^ n), dT_Nw, ?_, rowf_g G _, h1, h8, fun x => ?_⟩
  · exact (Nw_PX (zB_PX h).2.2.2.2.2 _).2.2.2.2.1.B dB_Nw
  · unfold rowg
    by_cases hx : x < 2 ^ n
    · rw [if_pos hx]; exact hG x hx
    · rw [if_neg hx]; exact Nat.zero_le _
theorem ShR_okd {z : CS} {r : RS} (h : ShR z r) : ∀ q, (∃ s, s < 6 ∧ z.2.2.1 0 s = some q) → (dS z q).isSome = true := by
  rintro q ⟨s, hs, e⟩
  obtain ⟨k, n, a, f, q1, q2⟩ := (h.1 s hs).2 q e
  rw [q1.1]; rfl
/-- a new task comes to a place -/
theorem Sim_newtask {o : Nat} {z y : CS} {r r' : RS} {p n : Nat} {kd wt : Int32} {g : Nat → Nat} {t : Int32 × Int32 × Int32 × Option Nat} (h : Sim o z r) (px : PX o z y) (hp : p < 8) (ht : TkAt (cNw y (.inl t)) (cn y) n kd wt g) (hr1 : r'.1 = r.1) (hr2 : r'.2.2 = r.2.2) (hr3 : ∀ k, 4 ≤ k → k ≠ 9 → k ≠ 10 → r'.2.1 k = r.2.1 k) (hs : ∀ j, j < 16 → j ≠ p → RSame r r' j) (tr : TkR r' p n kd wt g) : Sim o (cQ (cNw y (.inl t)) 1 p (some (cn y))) r' := by
  obtain ⟨h1, h2, h3, h4, h5⟩ := id h
  obtain ⟨y1, y2, y3, y4, y5, y6⟩ := px.tr (Nw_PX px.2.2.2.2.2 (.inl t))
  have ge : TkGe z (cQ (cNw y (.inl t)) 1 p (some (cn y))) := ⟨fun q t e => y5.T e, fun q t e => y5.B e⟩
  have e0 : (cQ (cNw y (.inl t)) 1 p (some (cn y))).2.2.1 0 = z.2.2.1 0 := by rw [cQ_n (by omega), y3]
  refine Sim_g h (fun k _ _ _ => congrFun y1 k) (fun k _ => congrFun y2 k) y4 ge (fun k _ => congrFun hr1 k) (fun k hk => hr3 k (by omega) (by omega) (by omega)) y6 ?_ ?_ ?_
  · exact ShR_ge h2 y5 (ShR_okd h2) e0 ⟨hr3 4 (by omega) (by omega) (by omega), hr3 5 (by omega) (by omega) (by omega), by rw [hr2]⟩
  · refine PlR_upd h3 ge p (fun j _ hj => by rw [cQ_k, vu_n hj, y3]) (fun j hj hjp => by rw [Nat.zero_add]; exact hs j (by omega) hjp) (fun _ => ⟨fun q => ?_, fun q' hq' => ?_⟩)
    · rw [cQ_k, vu_s] at q; cases q
    · rw [cQ_k, vu_s] at hq'
      obtain rfl := Option.some.inj hq'
      exact ⟨n, kd, wt, g, ht, by rw [Nat.zero_add]; exact tr⟩
  · exact PlR_all h4 ge (fun j _ => by rw [cQ_n (by omega), y3]) (fun j hj => hs _ (by omega) (by omega))
theorem TkR_g {r : RS} {p n : Nat} {kd wt : Int32} {g g' : Nat → Nat} (h : TkR r p n kd wt g) (hg : ∀ x, x < 2 ^ n → g x = g' x) : TkR r p n kd wt g' := ⟨h.1, h.2.1, h.2.2.1, fun x hx => by rw [← hg x hx]; exact h.2.2.2 x hx⟩
theorem TkR_row {r : RS} {p n : Nat} {kd wt : Int32} {G : Nat → Nat} (h : TkR r p n kd wt G) : TkR r p n kd wt (rowg G (2 ^ n)) := TkR_g h (fun x hx => by unfold rowg; rw [if_pos hx])
/-- a row of numbers laid into a place of the reference -/
theorem lay_n {r : RS} {p n : Nat} {kd wt : Int32} {G : Nat → Nat} (hp : p < 16) (hn : n ≤ 8) (hG : ∀ x, x < 2 ^ n → r.2.1 9 x = nI (G x)) : ∃ r', fX10_lay r (nI p) (nI n) kd wt = some r' ∧ r'.1 = r.1 ∧ r'.2.2 = r.2.2 ∧ (∀ k, 4 ≤ k → r'.2.1 k = r.2.1 k) ∧ (∀ j, j < 16 → j ≠ p → RSame r r' j) ∧ r'.2.1 0 p = nI n ∧ r'.2.1 1 p = kd ∧ r'.2.1 2 p = wt ∧ ∀ x, x < 2 ^ n → r'.2.1 3 (256 * p + x) = nI (G x) := by
  have p2 := p2le hn
  have hlp : ∀ r0 : RS, r0.2.1 9 = r.2.1 9 → ∃ e, lpN (fun u => fX10_lay_L25 u.2 (nI p) (nI n) u.1) bigN (nI 0, r0) = some e ∧ (e.1 = r0.1 ∧ e.2.2 = r0.2.2 ∧ (∀ k, k ≠ 3 → e.2.1 k = r0.2.1 k) ∧ (∀ x, x < 2 ^ n → e.2.1 3 (256 * p + x) = nI (G x)) ∧ ∀ j, ¬ (256 * p ≤ j ∧ j < 256 * p + 2 ^ n) → e.2.1 3 j = r0.2.1 3 j) := by
    intro r0 h0
    refine lp_count (fun i s => s.1 = nI i ∧ s.2.1 = r0.1 ∧ s.2.2.2 = r0.2.2 ∧ (∀ k, k ≠ 3 → s.2.2.1 k = r0.2.1 k) ∧ (∀ x, x < i → s.2.2.1 3 (256 * p + x) = nI (G x)) ∧ ∀ j, ¬ (256 * p ≤ j ∧ j < 256 * p + i) → s.2.2.1 3 j = r0.2.1 3 j) (2 ^ n) _ (bigN_gt (by omega)) (fun i s hi hs => ?_) (fun s hs => ?_) ⟨rfl, rfl, rfl, fun _ _ => rfl, fun x hx => by omega, fun _ _ => rfl⟩
    · obtain ⟨l, rr⟩ := s
      obtain ⟨rfl, s1, s2, s3, s4, s5⟩ := hs
      simp only at s1 s2 s3 s4 s5
      have s9 : rr.2.1 9 i = nI (G i) := by rw [s3 9 (by omega), h0]; exact hG i hi
      refine ⟨(nI (i + 1), rA rr 3 (256 * p + i) (nI (G i))), ?_, rfl, s1, s2, fun k hk => ?_, fun x hx => ?_, fun j hj => ?_⟩
      · unfold fX10_lay_L25
        rw [shl1 n hn]
        simp (disch := omega) only [s9, Option.bind_some, aI_n, aL_n, aQ_n, sA_n, sL_n, csA_n, i_0, i_1, i_2, i_3, i_4, i_5, i_6, i_7, i_8, i_9, i_10, i_11, i_12, i_13, i_16, i_20, i_21, i_22, i_31, i_99, i_100, i_256, i_1000, nI_eq, nI_leI, nI_ltI, nI_add, pk_mul, ↓reduceIte, nt_le, nf_le, nt_lt, nf_lt, nt_eq, nf_eq, meet_N', meet_P', meet_S', meet_Z', meet_B', meet_O', n_1, n_2, n_3, n_4, n_5, n_10, n_11]
      · rw [← s3 k hk]; simp only [rA_A, if_neg hk]
      · simp only [rA_A, if_true]
        by_cases hxi : x = i
        · subst hxi; rw [pk_us]
        · rw [pk_un (by omega)]; exact s4 x (by omega)
      · simp only [rA_A, if_true]
        rw [pk_un (by omega)]; exact s5 j (by omega)
    · obtain ⟨l, rr⟩ := s
      obtain ⟨rfl, s1, s2, s3, s4, s5⟩ := hs
      exact ⟨rr, by unfold fX10_lay_L25; rw [shl1 n hn]; simp (disch := omega) only [Option.bind_some, aI_n, aL_n, aQ_n, sA_n, sL_n, csA_n, i_0, i_1, i_2, i_3, i_4, i_5, i_6, i_7, i_8, i_9, i_10, i_11, i_12, i_13, i_16, i_20, i_21, i_22, i_31, i_99, i_100, i_256, i_1000, nI_eq, nI_leI, nI_ltI, nI_add, pk_mul, ↓reduceIte, nt_le, nf_le, nt_lt, nf_lt, nt_eq, nf_eq, meet_N', meet_P', meet_S', meet_Z', meet_B', meet_O', n_1, n_2, n_3, n_4, n_5, n_10, n_11], s1, s2, s3, s4, s5⟩
  obtain ⟨e, g1, g2, g3, g4, g5, g6⟩ := hlp (rA (rA (rA r 0 p (nI n)) 1 p kd) 2 p wt) rfl
  have e0 : e.2.1 0 = upd (r.2.1 0) p (nI n) := g4 0 (by omega)
  have e1 : e.2.1 1 = upd (r.2.1 1) p kd := g4 1 (by omega)
  have e2 : e.2.1 2 = upd (r.2.1 2) p wt := g4 2 (by omega)
  refine ⟨e, ?_, g2, g3, fun k hk => ?_, fun j hj hjp => ⟨by rw [e0, pk_un hjp], by rw [e1, pk_un hjp], by rw [e2, pk_un hjp], fun x hx => g6 _ (by omega)⟩, by rw [e0, pk_us], by rw [e1, pk_us], by rw [e2, pk_us], g5⟩
  · unfold fX10_lay
    simp (disch := omega) only [Option.bind_some, aI_n, aL_n, aQ_n, sA_n, sL_n, csA_n, i_0, i_1, i_2, i_3, i_4, i_5, i_6, i_7, i_8, i_9, i_10, i_11, i_12, i_13, i_16, i_20, i_21, i_22, i_31, i_99, i_100, i_256, i_1000, nI_eq, nI_leI, nI_ltI, nI_add, pk_mul, ↓reduceIte, nt_le, nf_le, nt_lt, nf_lt, nt_eq, nf_eq, meet_N', meet_P', meet_S', meet_Z', meet_B', meet_O', n_1, n_2, n_3, n_4, n_5, n_10, n_11]
    exact congrArg (fun u => u.bind fun e9 => some e9) g1
  · by_cases h3 : k = 3
    · omega
    rw [g4 k h3]
    simp only [rA_A, if_neg (show ¬ k = 0 by omega), if_neg (show ¬ k = 1 by omega), if_neg (show ¬ k = 2 by omega)]
