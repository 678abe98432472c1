/-! ===== letters: the reference ===== -/
def RLt (r r' : RS) : Prop := r'.1 = r.1 ∧ r'.2.2 = r.2.2 ∧ ∀ k, k ≠ 28 → r'.2.1 k = r.2.1 k
theorem RLt.rf {r : RS} : RLt r r := ⟨rfl, rfl, fun _ _ => rfl⟩
theorem RLt.tr {x y z : RS} (h : RLt x y) (h' : RLt y z) : RLt x z := ⟨h'.1.trans h.1, h'.2.1.trans h.2.1, fun k hk => (h'.2.2 k hk).trans (h.2.2 k hk)⟩
theorem RLt.up {r r' : RS} {i : Nat} {x : Int32} (h : RLt r r') : RLt r (rA r' 28 i x) := ⟨h.1, h.2.1, fun k hk => by rw [rA_n hk]; exact h.2.2 k hk⟩
def TbR (n : Nat) (r : RS) (R : Nat → Nat) : Prop := ∀ t, t ≤ Mn n → r.2.1 28 t = nI (R t)
def GTb (n : Nat) (R : Nat → Nat) : Prop := (∀ t, t ≤ Mn n → Ln n t ≤ R t ∧ R t ≤ 1000 ∧ R (Mn n - t) = R t) ∧ ∀ i, i < n → R (vr n i) ≤ 1
def smT (R : Nat → Nat) : Nat → Nat
  | 0 => 0
  | k + 1 => smT R k + R k
theorem smT_le {R R' : Nat → Nat} {K : Nat} (h : ∀ t, t < K → R' t ≤ R t) : smT R' K ≤ smT R K := by
  induction K with
  | zero => exact Nat.le_refl _
  | succ K ih =>
    have := ih (fun t ht => h t (by omega))
    have := h K (by omega)
    show smT R' K + R' K ≤ smT R K + R K
    omega
theorem smT_lt {R R' : Nat → Nat} {K t : Nat} (h : ∀ t, t < K → R' t ≤ R t) (ht : t < K) (hl : R' t < R t) : smT R' K < smT R K := by
  induction K with
  | zero => omega
  | succ K ih =>
    show smT R' K + R' K < smT R K + R K
    by_cases e : t = K
    · have := smT_le (K := K) (fun t ht => h t (by omega))
      rw [e] at hl
      omega
    · have := ih (fun t ht => h t (by omega)) (by omega)
      have := h K (by omega)
      omega
theorem smT_b {R : Nat → Nat} {K : Nat} (h : ∀ t, t < K → R t ≤ 1000) : smT R K ≤ 1000 * K := by
  induction K with
  | zero => exact Nat.le_refl _
  | succ K ih =>
    have := ih (fun t ht => h t (by omega))
    have := h K (by omega)
    show smT R K + R K ≤ 1000 * (K + 1)
    omega
theorem cplM {n t : Nat} (h1 : 1 ≤ n) (h3 : n ≤ 3) (ht : t ≤ Mn n) : nI (Mn n) &&& (nI t ^^^ -nI 1) = nI (Mn n - t) := by
  have b := Mn_b h1 h3
  have op := (Mn_op h1 h3 ht ht).2.2
  rw [show -nI 1 = nI 4294967295 by decide, nI_xor, nI_and, (sub_x (s := Mn n) (t := t) (by omega) (by omega) op).2.2.1]
theorem lessen_n {n t c : Nat} {r : RS} {R : Nat → Nat} (h1 : 1 ≤ n) (h3 : n ≤ 3) (hT : TbR n r R) (hG : GTb n R) (ht : t ≤ Mn n) (hc : c ≤ 2000) (hl : Ln n t ≤ c) : (fX10_lessen r (nI t) (nI c) (nI (Mn n)) = some (nI 0, r) ∧ (t = 0 ∨ t = Mn n ∨ R t ≤ c)) ∨ ∃ r' R', fX10_lessen r (nI t) (nI c) (nI (Mn n)) = some (nI 1, r') ∧ RLt r r' ∧ TbR n r' R' ∧ GTb n R' ∧ (∀ s, s ≤ Mn n → R' s ≤ R s) ∧ R' t < R t := by
  have b := Mn_b h1 h3
  have F := LeF_ok h1 h3
  obtain ⟨g1, g2, g3⟩ := hG.1 t ht
  have rt := hT t ht
  unfold fX10_lessen
  by_cases t0 : t = 0
  · left
    subst t0
    refine ⟨?_, Or.inl rfl⟩
    unfold fX10_lessen_J23 fX10_lessen_J24 fX10_lessen_J76
    simp (disch := omega) only [show zI (nI 0) = some (nI 0) from rfl, Option.bind_some, aI_n, aL_n, aQ_n, sA_n, sL_n, csA_n, i_0, i_1, i_2, i_3, i_4, i_5, i_6, i_7, i_8, i_9, i_10, i_11, i_12, i_13, i_16, i_20, i_21, i_22, i_31, i_99, i_100, i_256, i_1000, nI_eq, nI_leI, nI_ltI, nI_add, pk_mul, ↓reduceIte, nt_le, nf_le, nt_lt, nf_lt, nt_eq, nf_eq, meet_N', meet_P', meet_S', meet_Z', meet_B', meet_O', n_1, n_2, n_3, n_4, n_5, n_10, n_11]
  · by_cases tM : t = Mn n
    · left
      subst tM
      refine ⟨?_, Or.inr (Or.inl rfl)⟩
      unfold fX10_lessen_J23 fX10_lessen_J24 fX10_lessen_J76
      simp (disch := omega) only [show zI (nI 0) = some (nI 0) from rfl, Option.bind_some, aI_n, aL_n, aQ_n, sA_n, sL_n, csA_n, i_0, i_1, i_2, i_3, i_4, i_5, i_6, i_7, i_8, i_9, i_10, i_11, i_12, i_13, i_16, i_20, i_21, i_22, i_31, i_99, i_100, i_256, i_1000, nI_eq, nI_leI, nI_ltI, nI_add, pk_mul, ↓reduceIte, nt_le, nf_le, nt_lt, nf_lt, nt_eq, nf_eq, meet_N', meet_P', meet_S', meet_Z', meet_B', meet_O', n_1, n_2, n_3, n_4, n_5, n_10, n_11]
    · by_cases q : R t ≤ c
      · left
        refine ⟨?_, Or.inr (Or.inr q)⟩
        unfold fX10_lessen_J23 fX10_lessen_J24 fX10_lessen_J76
        simp (disch := omega) only [rt, show zI (nI 0) = some (nI 0) from rfl, Option.bind_some, aI_n, aL_n, aQ_n, sA_n, sL_n, csA_n, i_0, i_1, i_2, i_3, i_4, i_5, i_6, i_7, i_8, i_9, i_10, i_11, i_12, i_13, i_16, i_20, i_21, i_22, i_31, i_99, i_100, i_256, i_1000, nI_eq, nI_leI, nI_ltI, nI_add, pk_mul, ↓reduceIte, nt_le, nf_le, nt_lt, nf_lt, nt_eq, nf_eq, meet_N', meet_P', meet_S', meet_Z', meet_B', meet_O', n_1, n_2, n_3, n_4, n_5, n_10, n_11]
      · right
        have hne : Mn n - t ≠ t := by omega
        have x1 : (rA r 28 t (nI c)).2.1 28 (Mn n - t) = nI (R t) := by rw [rA_j hne, hT (Mn n - t) (by omega), g3]
        refine ⟨rA (rA r 28 t (nI c)) 28 (Mn n - t) (nI c), fun s => if s = Mn n - t ∨ s = t then c else R s, ?_, RLt.rf.up.up, fun s hs => ?_, ⟨fun s hs => ?_, fun i hi => ?_⟩, fun s hs => ?_, ?_⟩
        · unfold fX10_lessen_J24 fX10_lessen_J75 fX10_lessen_J76
          simp (disch := omega) only [rt, cplM h1 h3 ht, x1, show zI (nI 1) = some (nI 1) from rfl, Option.bind_some, aI_n, aL_n, aQ_n, sA_n, sL_n, csA_n, i_0, i_1, i_2, i_3, i_4, i_5, i_6, i_7, i_8, i_9, i_10, i_11, i_12, i_13, i_16, i_20, i_21, i_22, i_31, i_99, i_100, i_256, i_1000, nI_eq, nI_leI, nI_ltI, nI_add, pk_mul, ↓reduceIte, nt_le, nf_le, nt_lt, nf_lt, nt_eq, nf_eq, meet_N', meet_P', meet_S', meet_Z', meet_B', meet_O', n_1, n_2, n_3, n_4, n_5, n_10, n_11]
        · show _ = nI (if s = Mn n - t ∨ s = t then c else R s)
          by_cases e : s = Mn n - t
          · rw [if_pos (Or.inl e), e]; exact rA_s
          · rw [rA_j e]
            by_cases e2 : s = t
            · rw [if_pos (Or.inr e2), e2]; exact rA_s
            · rw [rA_j e2, if_neg (fun w => w.elim e e2)]; exact hT s hs
        · show Ln n s ≤ (if s = Mn n - t ∨ s = t then c else R s) ∧ (if s = Mn n - t ∨ s = t then c else R s) ≤ 1000 ∧ (if Mn n - s = Mn n - t ∨ Mn n - s = t then c else R (Mn n - s)) = (if s = Mn n - t ∨ s = t then c else R s)
          have hsym : (Mn n - s = Mn n - t ∨ Mn n - s = t) ↔ (s = Mn n - t ∨ s = t) := by omega
          by_cases e : s = Mn n - t ∨ s = t
          · rw [if_pos e, if_pos (hsym.mpr e)]
            refine ⟨?_, by omega, rfl⟩
            rcases e with e | e
            · rw [e, (F.2.1 t (by omega)).1]; exact hl
            · rw [e]; exact hl
          · rw [if_neg e, if_neg (fun w => e (hsym.mp w))]
            exact hG.1 s hs
        · show (if vr n i = Mn n - t ∨ vr n i = t then c else R (vr n i)) ≤ 1
          have v1 := hG.2 i hi
          have vb := F.2.2.2.2.1 i hi
          by_cases e : vr n i = Mn n - t ∨ vr n i = t
          · rw [if_pos e]
            rcases e with e | e
            · rw [e, g3] at v1; omega
            · rw [e] at v1; omega
          · rw [if_neg e]; exact v1
        · show (if s = Mn n - t ∨ s = t then c else R s) ≤ R s
          by_cases e : s = Mn n - t ∨ s = t
          · rw [if_pos e]
            rcases e with e | e
            · rw [e, g3]; omega
            · rw [e]; omega
          · rw [if_neg e]; exact Nat.le_refl _
        · show (if t = Mn n - t ∨ t = t then c else R t) < R t
          rw [if_pos (Or.inr rfl)]
          omega
/-- nothing less comes of f and g -/
def Clo (n : Nat) (R : Nat → Nat) (f g : Nat) : Prop := (f &&& g = 0 ∨ f &&& g = Mn n ∨ R (f &&& g) ≤ R f + R g) ∧ (f ||| g = 0 ∨ f ||| g = Mn n ∨ R (f ||| g) ≤ R f + R g)
/-- where a round over all pairs stands -/
def PS (n : Nat) (R0 : Nat → Nat) (fl : Nat) (R : Nat → Nat) : Prop := fl ≤ 1 ∧ GTb n R ∧ (∀ t, t ≤ Mn n → R t ≤ R0 t) ∧ (fl = 0 → ∀ t, t ≤ Mn n → R t = R0 t) ∧ (fl = 1 → smT R (Mn n + 1) < smT R0 (Mn n + 1))
theorem PS_new {n fl t : Nat} {R0 R R' : Nat → Nat} (h : PS n R0 fl R) (hG : GTb n R') (hle : ∀ s, s ≤ Mn n → R' s ≤ R s) (ht : t ≤ Mn n) (hlt : R' t < R t) : PS n R0 1 R' := by
  refine ⟨Nat.le_refl _, hG, fun s hs => Nat.le_trans (hle s hs) (h.2.2.1 s hs), fun q => by omega, fun _ => ?_⟩
  have a := smT_lt (R := R) (R' := R') (K := Mn n + 1) (t := t) (fun s hs => hle s (by omega)) (by omega) hlt
  have b := smT_le (R := R0) (R' := R) (K := Mn n + 1) (fun s hs => h.2.2.1 s (by omega))
  omega
theorem let201 {n f fl : Nat} {r0 r : RS} {R0 R : Nat → Nat} {l4 : Int32} (h1 : 1 ≤ n) (h3 : n ≤ 3) (hf : 1 ≤ f) (hfM : f < Mn n) (hr : RLt r0 r) (hT : TbR n r R) (hP : PS n R0 fl R) : ∃ e, lpN (fun u => fX10_letters_L201 u.2.2 (nI (Mn n)) l4 (nI f) u.1 u.2.1) bigN (nI fl, nI 1, r) = some e ∧ ∃ fl' r' R', e = (nI fl', r') ∧ RLt r0 r' ∧ TbR n r' R' ∧ PS n R0 fl' R' ∧ fl ≤ fl' ∧ (fl' = 0 → ∀ g, 1 ≤ g → g < Mn n → Clo n R0 f g) := by
  have b := Mn_b h1 h3
  have F := LeF_ok h1 h3
  refine lp_count (fun i s => ∃ fl' r' R', s = (nI fl', nI (i + 1), r') ∧ RLt r0 r' ∧ TbR n r' R' ∧ PS n R0 fl' R' ∧ fl ≤ fl' ∧ (fl' = 0 → ∀ g, 1 ≤ g → g < i + 1 → Clo n R0 f g)) (Mn n - 1) _ (bigN_gt (by omega)) (fun i s hi hs => ?_) (fun s hs => ?_) ⟨fl, r, R, rfl, hr, hT, hP, Nat.le_refl _, fun _ g g1 g2 => by omega⟩
  · obtain ⟨fl', r', R', rfl, s1, s2, s3, s4, s5⟩ := hs
    have op := Mn_op h1 h3 (show f ≤ Mn n by omega) (show i + 1 ≤ Mn n by omega)
    have gf := (s3.2.1.1 f (by omega))
    have gg := (s3.2.1.1 (i + 1) (by omega))
    have rf := s2 f (by omega)
    have rg := s2 (i + 1) (by omega)
    have FA := F.1 f (by omega) (i + 1) (by omega)
    have fl1 := s3.1
    unfold fX10_letters_L201 fX10_letters_L201_J256 fX10_letters_L201_J261
    have o1 : fl' ||| 1 = 1 := by rcases (show fl' = 0 ∨ fl' = 1 by omega) with c | c <;> rw [c] <;> rfl
    rcases lessen_n (c := R' f + R' (i + 1)) h1 h3 s2 s3.2.1 op.1 (by omega) (by omega) with ⟨a1, a2⟩ | ⟨r2, R2, a1, a2, a3, a4, a5, a6⟩
    · rcases lessen_n (c := R' f + R' (i + 1)) h1 h3 s2 s3.2.1 op.2.1 (by omega) (by omega) with ⟨c1, c2⟩ | ⟨r2, R2, c1, c2, c3, c4, c5, c6⟩
      · refine ⟨(nI fl', nI (i + 1 + 1), r'), ?_, fl', r', R', rfl, s1, s2, s3, s4, fun q g g1 g2 => ?_⟩
        · simp (disch := omega) only [rf, rg, nI_and, nI_or f (i + 1), a1, c1, nI_or fl' 0, Nat.or_zero, Option.bind_some, aI_n, aL_n, aQ_n, sA_n, sL_n, csA_n, i_0, i_1, i_2, i_3, i_4, i_5, i_6, i_7, i_8, i_9, i_10, i_11, i_12, i_13, i_16, i_20, i_21, i_22, i_31, i_99, i_100, i_256, i_1000, nI_eq, nI_leI, nI_ltI, nI_add, pk_mul, ↓reduceIte, nt_le, nf_le, nt_lt, nf_lt, nt_eq, nf_eq, meet_N', meet_P', meet_S', meet_Z', meet_B', meet_O', n_1, n_2, n_3, n_4, n_5, n_10, n_11]
        · by_cases e : g = i + 1
          · rw [e]
            have eq := s3.2.2.2.1 q
            unfold Clo
            rw [eq f (by omega), eq (i + 1) (by omega), eq _ op.1] at a2
            rw [eq f (by omega), eq (i + 1) (by omega), eq _ op.2.1] at c2
            exact ⟨a2, c2⟩
          · exact s5 q g g1 (by omega)
      · refine ⟨(nI 1, nI (i + 1 + 1), r2), ?_, 1, r2, R2, rfl, s1.tr c2, c3, PS_new s3 c4 c5 op.2.1 c6, by omega, fun q => by omega⟩
        simp (disch := omega) only [rf, rg, nI_and, nI_or f (i + 1), a1, c1, nI_or fl' 1, o1, Option.bind_some, aI_n, aL_n, aQ_n, sA_n, sL_n, csA_n, i_0, i_1, i_2, i_3, i_4, i_5, i_6, i_7, i_8, i_9, i_10, i_11, i_12, i_13, i_16, i_20, i_21, i_22, i_31, i_99, i_100, i_256, i_1000, nI_eq, nI_leI, nI_ltI, nI_add, pk_mul, ↓reduceIte, nt_le, nf_le, nt_lt, nf_lt, nt_eq, nf_eq, meet_N', meet_P', meet_S', meet_Z', meet_B', meet_O', n_1, n_2, n_3, n_4, n_5, n_10, n_11]
    · refine ⟨(nI 1, nI (i + 1 + 1), r2), ?_, 1, r2, R2, rfl, s1.tr a2, a3, PS_new s3 a4 a5 op.1 a6, by omega, fun q => by omega⟩
      simp (disch := omega) only [rf, rg, nI_and, a1, nI_or fl' 1, o1, Option.bind_some, aI_n, aL_n, aQ_n, sA_n, sL_n, csA_n, i_0, i_1, i_2, i_3, i_4, i_5, i_6, i_7, i_8, i_9, i_10, i_11, i_12, i_13, i_16, i_20, i_21, i_22, i_31, i_99, i_100, i_256, i_1000, nI_eq, nI_leI, nI_ltI, nI_add, pk_mul, ↓reduceIte, nt_le, nf_le, nt_lt, nf_lt, nt_eq, nf_eq, meet_N', meet_P', meet_S', meet_Z', meet_B', meet_O', n_1, n_2, n_3, n_4, n_5, n_10, n_11]
  · obtain ⟨fl', r', R', rfl, s1, s2, s3, s4, s5⟩ := hs
    refine ⟨(nI fl', r'), ?_, fl', r', R', rfl, s1, s2, s3, s4, fun q g g1 g2 => s5 q g g1 (by omega)⟩
    unfold fX10_letters_L201
    simp (disch := omega) only [Option.bind_some, aI_n, aL_n, aQ_n, sA_n, sL_n, csA_n, i_0, i_1, i_2, i_3, i_4, i_5, i_6, i_7, i_8, i_9, i_10, i_11, i_12, i_13, i_16, i_20, i_21, i_22, i_31, i_99, i_100, i_256, i_1000, nI_eq, nI_leI, nI_ltI, nI_add, pk_mul, ↓reduceIte, nt_le, nf_le, nt_lt, nf_lt, nt_eq, nf_eq, meet_N', meet_P', meet_S', meet_Z', meet_B', meet_O', n_1, n_2, n_3, n_4, n_5, n_10, n_11]
theorem let192 {n : Nat} {r0 r : RS} {R : Nat → Nat} {l4 : Int32} (h1 : 1 ≤ n) (h3 : n ≤ 3) (hr : RLt r0 r) (hT : TbR n r R) (hG : GTb n R) : ∃ e, lpN (fun u => fX10_letters_L192 u.2.2 (nI (Mn n)) l4 u.1 u.2.1) bigN (nI 0, nI 1, r) = some e ∧ ∃ fl' r' R', e = (nI fl', r') ∧ RLt r0 r' ∧ TbR n r' R' ∧ PS n R fl' R' ∧ (fl' = 0 → ∀ f, 1 ≤ f → f < Mn n → ∀ g, 1 ≤ g → g < Mn n → Clo n R f g) := by
  have b := Mn_b h1 h3
  refine lp_count (fun i s => ∃ fl' r' R', s = (nI fl', nI (i + 1), r') ∧ RLt r0 r' ∧ TbR n r' R' ∧ PS n R fl' R' ∧ (fl' = 0 → ∀ f, 1 ≤ f → f < i + 1 → ∀ g, 1 ≤ g → g < Mn n → Clo n R f g)) (Mn n - 1) _ (bigN_gt (by omega)) (fun i s hi hs => ?_) (fun s hs => ?_) ⟨0, r, R, rfl, hr, hT, ⟨by omega, hG, fun _ _ => Nat.le_refl _, fun _ _ _ => rfl, fun q => by omega⟩, fun _ f f1 f2 => by omega⟩
  · obtain ⟨fl', r', R', rfl, s1, s2, s3, s5⟩ := hs
    obtain ⟨e, e1, fl2, r2, R2, rfl, e2, e3, e4, e5, e6⟩ := let201 (l4 := l4) (f := i + 1) h1 h3 (by omega) (by omega) s1 s2 s3
    refine ⟨(nI fl2, nI (i + 1 + 1), r2), ?_, fl2, r2, R2, rfl, e2, e3, e4, fun q f f1 f2 => ?_⟩
    · unfold fX10_letters_L192
      simp (disch := omega) only [e1, Option.bind_some, aI_n, aL_n, aQ_n, sA_n, sL_n, csA_n, i_0, i_1, i_2, i_3, i_4, i_5, i_6, i_7, i_8, i_9, i_10, i_11, i_12, i_13, i_16, i_20, i_21, i_22, i_31, i_99, i_100, i_256, i_1000, nI_eq, nI_leI, nI_ltI, nI_add, pk_mul, ↓reduceIte, nt_le, nf_le, nt_lt, nf_lt, nt_eq, nf_eq, meet_N', meet_P', meet_S', meet_Z', meet_B', meet_O', n_1, n_2, n_3, n_4, n_5, n_10, n_11]
    · by_cases ef : f = i + 1
      · rw [ef]; exact e6 q
      · exact s5 (by omega) f f1 (by omega)
  · obtain ⟨fl', r', R', rfl, s1, s2, s3, s5⟩ := hs
    refine ⟨(nI fl', r'), ?_, fl', r', R', rfl, s1, s2, s3, fun q f f1 f2 => s5 q f f1 (by omega)⟩
    unfold fX10_letters_L192
    simp (disch := omega) only [Option.bind_some, aI_n, aL_n, aQ_n, sA_n, sL_n, csA_n, i_0, i_1, i_2, i_3, i_4, i_5, i_6, i_7, i_8, i_9, i_10, i_11, i_12, i_13, i_16, i_20, i_21, i_22, i_31, i_99, i_100, i_256, i_1000, nI_eq, nI_leI, nI_ltI, nI_add, pk_mul, ↓reduceIte, nt_le, nf_le, nt_lt, nf_lt, nt_eq, nf_eq, meet_N', meet_P', meet_S', meet_Z', meet_B', meet_O', n_1, n_2, n_3, n_4, n_5, n_10, n_11]
theorem let181 {n : Nat} {r0 r : RS} {R : Nat → Nat} {l4 : Int32} (h1 : 1 ≤ n) (h3 : n ≤ 3) (hr : RLt r0 r) (hT : TbR n r R) (hG : GTb n R) : ∃ e, lpN (fun u => fX10_letters_L181 u.2 (nI (Mn n)) l4 u.1) bigN (nI 1, r) = some e ∧ ∃ R', RLt r0 e ∧ TbR n e R' ∧ GTb n R' ∧ ∀ f, 1 ≤ f → f < Mn n → ∀ g, 1 ≤ g → g < Mn n → Clo n R' f g := by
  have b := Mn_b h1 h3
  have key : ∀ (k : Nat) (r : RS) (R : Nat → Nat), RLt r0 r → TbR n r R → GTb n R → smT R (Mn n + 1) < k → ∀ m, k + 1 < m → ∃ e, lpN (fun u => fX10_letters_L181 u.2 (nI (Mn n)) l4 u.1) m (nI 1, r) = some e ∧ ∃ R', RLt r0 e ∧ TbR n e R' ∧ GTb n R' ∧ ∀ f, 1 ≤ f → f < Mn n → ∀ g, 1 ≤ g → g < Mn n → Clo n R' f g := by
    intro k
    induction k with
    | zero => intro r R _ _ _ h; omega
    | succ k ih =>
      intro r R hr hT hG hs m hm
      obtain ⟨m', rfl⟩ : ∃ m', m = m' + 1 := ⟨m - 1, by omega⟩
      obtain ⟨e, e1, fl, r2, R2, rfl, e2, e3, e4, e5⟩ := let192 (l4 := l4) h1 h3 hr hT hG
      have step : (fun u : Int32 × RS => fX10_letters_L181 u.2 (nI (Mn n)) l4 u.1) (nI 1, r) = some (.inl (nI fl, r2)) := by
        show fX10_letters_L181 r (nI (Mn n)) l4 (nI 1) = _
        unfold fX10_letters_L181
        simp (disch := omega) only [e1, Option.bind_some, aI_n, aL_n, aQ_n, sA_n, sL_n, csA_n, i_0, i_1, i_2, i_3, i_4, i_5, i_6, i_7, i_8, i_9, i_10, i_11, i_12, i_13, i_16, i_20, i_21, i_22, i_31, i_99, i_100, i_256, i_1000, nI_eq, nI_leI, nI_ltI, nI_add, pk_mul, ↓reduceIte, nt_le, nf_le, nt_lt, nf_lt, nt_eq, nf_eq, meet_N', meet_P', meet_S', meet_Z', meet_B', meet_O', n_1, n_2, n_3, n_4, n_5, n_10, n_11]
      rw [lpN_s step]
      have f1 := e4.1
      rcases (show fl = 0 ∨ fl = 1 by omega) with rfl | rfl
      · have eq := e4.2.2.2.1 rfl
        refine ⟨r2, ?_, R2, e2, e3, e4.2.1, fun f f1 f2 g g1 g2 => ?_⟩
        · obtain ⟨m2, rfl⟩ : ∃ m2, m' = m2 + 1 := ⟨m' - 1, by omega⟩
          refine lpN_e ?_
          show fX10_letters_L181 r2 (nI (Mn n)) l4 (nI 0) = _
          unfold fX10_letters_L181
          simp (disch := omega) only [Option.bind_some, aI_n, aL_n, aQ_n, sA_n, sL_n, csA_n, i_0, i_1, i_2, i_3, i_4, i_5, i_6, i_7, i_8, i_9, i_10, i_11, i_12, i_13, i_16, i_20, i_21, i_22, i_31, i_99, i_100, i_256, i_1000, nI_eq, nI_leI, nI_ltI, nI_add, pk_mul, ↓reduceIte, nt_le, nf_le, nt_lt, nf_lt, nt_eq, nf_eq, meet_N', meet_P', meet_S', meet_Z', meet_B', meet_O', n_1, n_2, n_3, n_4, n_5, n_10, n_11]
        · have op := Mn_op h1 h3 (show f ≤ Mn n by omega) (show g ≤ Mn n by omega)
          have := e5 rfl f f1 f2 g g1 g2
          unfold Clo at this ⊢
          rw [eq f (by omega), eq g (by omega), eq _ op.1, eq _ op.2.1]
          exact this
      · have lt := e4.2.2.2.2 rfl
        exact ih r2 R2 e2 e3 e4.2.1 (by omega) m' (by omega)
  have sb := smT_b (R := R) (K := Mn n + 1) (fun t ht => (hG.1 t (by omega)).2.1)
  exact key (smT R (Mn n + 1) + 1) r R hr hT hG (by omega) bigN (bigN_gt (by omega))
/-- at the end the table is that of the letters -/
theorem let_end {n : Nat} {R : Nat → Nat} (h1 : 1 ≤ n) (h3 : n ≤ 3) (hG : GTb n R) (hC : ∀ f, 1 ≤ f → f < Mn n → ∀ g, 1 ≤ g → g < Mn n → Clo n R f g) : ∀ t, 0 < t → t < Mn n → R t = Ln n t := by
  have b := Mn_b h1 h3
  have F := LeF_ok h1 h3
  have key : ∀ k t, 0 < t → t < Mn n → Ln n t ≤ k → R t ≤ Ln n t := by
    intro k
    induction k with
    | zero =>
      intro t t0 tM hk
      have := (F.2.1 t (by omega)).2 t0 tM
      omega
    | succ k ih =>
      intro t t0 tM hk
      have l1 := (F.2.1 t (by omega)).2 t0 tM
      by_cases e1 : Ln n t = 1
      · obtain ⟨i, hi, c⟩ := F.2.2.1 t (by omega) e1
        have v := hG.2 i hi
        have vb := F.2.2.2.2.1 i hi
        rcases c with c | c
        · rw [c] at e1 ⊢; omega
        · have s := (hG.1 (vr n i) (by omega)).2.2
          rw [c] at e1 ⊢
          omega
      · obtain ⟨f, hf, g, hg, a1, a2, a3, a4⟩ := F.2.2.2.1 t (by omega) (by omega)
        have f0 : f ≠ 0 := fun q => by rw [q, F.2.2.2.2.2.1] at a2; omega
        have fM : f ≠ Mn n := fun q => by rw [q, F.2.2.2.2.2.2] at a2; omega
        have g0 : g ≠ 0 := fun q => by rw [q, F.2.2.2.2.2.1] at a1; omega
        have gM : g ≠ Mn n := fun q => by rw [q, F.2.2.2.2.2.2] at a1; omega
        have i1 := ih f (by omega) (by omega) (by omega)
        have i2 := ih g (by omega) (by omega) (by omega)
        have c := (hC f (by omega) (by omega) g (by omega) (by omega)).1
        have s := (hG.1 t (by omega)).2.2
        rcases a4 with a | a
        · rw [a] at c
          rcases c with c | c | c <;> omega
        · rw [a] at c
          rcases c with c | c | c <;> omega
  intro t t0 tM
  have := key (Ln n t) t t0 tM (Nat.le_refl _)
  have := (hG.1 t (by omega)).1
  omega
